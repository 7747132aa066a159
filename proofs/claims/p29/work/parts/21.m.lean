/-! RunDeskModel.read -/
theorem dX11_read_0 : decode cX11_read 0 = .ok (.aload_n 0, 1) := by decide +kernel
theorem dX11_read_1 : decode cX11_read 1 = .ok (.iconst 0, 1) := by decide +kernel
theorem dX11_read_2 : decode cX11_read 2 = .ok (.putfield 148, 3) := by decide +kernel
theorem dX11_read_5 : decode cX11_read 5 = .ok (.aload_n 0, 1) := by decide +kernel
theorem dX11_read_6 : decode cX11_read 6 = .ok (.iconst (-1), 1) := by decide +kernel
theorem dX11_read_7 : decode cX11_read 7 = .ok (.putfield 151, 3) := by decide +kernel
theorem dX11_read_10 : decode cX11_read 10 = .ok (.aload_n 0, 1) := by decide +kernel
theorem dX11_read_11 : decode cX11_read 11 = .ok (.iconst 0, 1) := by decide +kernel
theorem dX11_read_12 : decode cX11_read 12 = .ok (.putfield 167, 3) := by decide +kernel
theorem dX11_read_15 : decode cX11_read 15 = .ok (.aload_n 0, 1) := by decide +kernel
theorem dX11_read_16 : decode cX11_read 16 = .ok (.iload_n 1, 1) := by decide +kernel
theorem dX11_read_17 : decode cX11_read 17 = .ok (.putfield 179, 3) := by decide +kernel
theorem dX11_read_20 : decode cX11_read 20 = .ok (.aload_n 0, 1) := by decide +kernel
theorem dX11_read_21 : decode cX11_read 21 = .ok (.iconst 0, 1) := by decide +kernel
theorem dX11_read_22 : decode cX11_read 22 = .ok (.putfield 188, 3) := by decide +kernel
theorem dX11_read_25 : decode cX11_read 25 = .ok (.aload_n 0, 1) := by decide +kernel
theorem dX11_read_26 : decode cX11_read 26 = .ok (.iconst 0, 1) := by decide +kernel
theorem dX11_read_27 : decode cX11_read 27 = .ok (.putfield 192, 3) := by decide +kernel
theorem dX11_read_30 : decode cX11_read 30 = .ok (.aload_n 0, 1) := by decide +kernel
theorem dX11_read_31 : decode cX11_read 31 = .ok (.invokevirtual 170, 3) := by decide +kernel
theorem dX11_read_34 : decode cX11_read 34 = .ok (.istore_n 2, 1) := by decide +kernel
theorem dX11_read_35 : decode cX11_read 35 = .ok (.aload_n 0, 1) := by decide +kernel
theorem dX11_read_36 : decode cX11_read 36 = .ok (.bipush 59, 2) := by decide +kernel
theorem dX11_read_38 : decode cX11_read 38 = .ok (.invokevirtual 173, 3) := by decide +kernel
theorem dX11_read_41 : decode cX11_read 41 = .ok (.aload_n 0, 1) := by decide +kernel
theorem dX11_read_42 : decode cX11_read 42 = .ok (.invokevirtual 163, 3) := by decide +kernel
theorem dX11_read_45 : decode cX11_read 45 = .ok (.ifCond .ne 5, 3) := by decide +kernel
theorem dX11_read_48 : decode cX11_read 48 = .ok (.iconst 0, 1) := by decide +kernel
theorem dX11_read_49 : decode cX11_read 49 = .ok (.ireturn, 1) := by decide +kernel
theorem dX11_read_50 : decode cX11_read 50 = .ok (.aload_n 0, 1) := by decide +kernel
theorem dX11_read_51 : decode cX11_read 51 = .ok (.invokevirtual 154, 3) := by decide +kernel
theorem dX11_read_54 : decode cX11_read 54 = .ok (.istore_n 3, 1) := by decide +kernel
theorem dX11_read_55 : decode cX11_read 55 = .ok (.iload_n 3, 1) := by decide +kernel
theorem dX11_read_56 : decode cX11_read 56 = .ok (.bipush 110, 2) := by decide +kernel
theorem dX11_read_58 : decode cX11_read 58 = .ok (.if_icmp .eq 15, 3) := by decide +kernel
theorem dX11_read_61 : decode cX11_read 61 = .ok (.iload_n 3, 1) := by decide +kernel
theorem dX11_read_62 : decode cX11_read 62 = .ok (.bipush 103, 2) := by decide +kernel
theorem dX11_read_64 : decode cX11_read 64 = .ok (.if_icmp .eq 9, 3) := by decide +kernel
theorem dX11_read_67 : decode cX11_read 67 = .ok (.aload_n 0, 1) := by decide +kernel
theorem dX11_read_68 : decode cX11_read 68 = .ok (.invokevirtual 160, 3) := by decide +kernel
theorem dX11_read_71 : decode cX11_read 71 = .ok (.iconst 0, 1) := by decide +kernel
theorem dX11_read_72 : decode cX11_read 72 = .ok (.ireturn, 1) := by decide +kernel
theorem dX11_read_73 : decode cX11_read 73 = .ok (.aload_n 0, 1) := by decide +kernel
theorem dX11_read_74 : decode cX11_read 74 = .ok (.iload_n 3, 1) := by decide +kernel
theorem dX11_read_75 : decode cX11_read 75 = .ok (.bipush 103, 2) := by decide +kernel
theorem dX11_read_77 : decode cX11_read 77 = .ok (.if_icmp .ne 7, 3) := by decide +kernel
theorem dX11_read_80 : decode cX11_read 80 = .ok (.iconst 1, 1) := by decide +kernel
theorem dX11_read_81 : decode cX11_read 81 = .ok (.goto 4, 3) := by decide +kernel
theorem dX11_read_84 : decode cX11_read 84 = .ok (.iconst 0, 1) := by decide +kernel
theorem dX11_read_85 : decode cX11_read 85 = .ok (.putfield 188, 3) := by decide +kernel
theorem dX11_read_88 : decode cX11_read 88 = .ok (.aload_n 0, 1) := by decide +kernel
theorem dX11_read_89 : decode cX11_read 89 = .ok (.dup, 1) := by decide +kernel
theorem dX11_read_90 : decode cX11_read 90 = .ok (.getfield 148, 3) := by decide +kernel
theorem dX11_read_93 : decode cX11_read 93 = .ok (.iconst 1, 1) := by decide +kernel
theorem dX11_read_94 : decode cX11_read 94 = .ok (.iadd, 1) := by decide +kernel
theorem dX11_read_95 : decode cX11_read 95 = .ok (.putfield 148, 3) := by decide +kernel
theorem dX11_read_98 : decode cX11_read 98 = .ok (.aload_n 0, 1) := by decide +kernel
theorem dX11_read_99 : decode cX11_read 99 = .ok (.invokevirtual 154, 3) := by decide +kernel
theorem dX11_read_102 : decode cX11_read 102 = .ok (.bipush 59, 2) := by decide +kernel
theorem dX11_read_104 : decode cX11_read 104 = .ok (.if_icmp .ne 21, 3) := by decide +kernel
theorem dX11_read_107 : decode cX11_read 107 = .ok (.aload_n 0, 1) := by decide +kernel
theorem dX11_read_108 : decode cX11_read 108 = .ok (.dup, 1) := by decide +kernel
theorem dX11_read_109 : decode cX11_read 109 = .ok (.getfield 148, 3) := by decide +kernel
theorem dX11_read_112 : decode cX11_read 112 = .ok (.iconst 1, 1) := by decide +kernel
theorem dX11_read_113 : decode cX11_read 113 = .ok (.iadd, 1) := by decide +kernel
theorem dX11_read_114 : decode cX11_read 114 = .ok (.putfield 148, 3) := by decide +kernel
theorem dX11_read_117 : decode cX11_read 117 = .ok (.aload_n 0, 1) := by decide +kernel
theorem dX11_read_118 : decode cX11_read 118 = .ok (.aload_n 0, 1) := by decide +kernel
theorem dX11_read_119 : decode cX11_read 119 = .ok (.invokevirtual 176, 3) := by decide +kernel
theorem dX11_read_122 : decode cX11_read 122 = .ok (.putfield 192, 3) := by decide +kernel
theorem dX11_read_125 : decode cX11_read 125 = .ok (.aload_n 0, 1) := by decide +kernel
theorem dX11_read_126 : decode cX11_read 126 = .ok (.invokevirtual 163, 3) := by decide +kernel
theorem dX11_read_129 : decode cX11_read 129 = .ok (.ifCond .eq 15, 3) := by decide +kernel
theorem dX11_read_132 : decode cX11_read 132 = .ok (.aload_n 0, 1) := by decide +kernel
theorem dX11_read_133 : decode cX11_read 133 = .ok (.invokevirtual 154, 3) := by decide +kernel
theorem dX11_read_136 : decode cX11_read 136 = .ok (.iconst (-1), 1) := by decide +kernel
theorem dX11_read_137 : decode cX11_read 137 = .ok (.if_icmp .eq 7, 3) := by decide +kernel
theorem dX11_read_140 : decode cX11_read 140 = .ok (.aload_n 0, 1) := by decide +kernel
theorem dX11_read_141 : decode cX11_read 141 = .ok (.invokevirtual 160, 3) := by decide +kernel
theorem dX11_read_144 : decode cX11_read 144 = .ok (.iload_n 2, 1) := by decide +kernel
theorem dX11_read_145 : decode cX11_read 145 = .ok (.ifCond .eq 14, 3) := by decide +kernel
theorem dX11_read_148 : decode cX11_read 148 = .ok (.aload_n 0, 1) := by decide +kernel
theorem dX11_read_149 : decode cX11_read 149 = .ok (.invokevirtual 163, 3) := by decide +kernel
theorem dX11_read_152 : decode cX11_read 152 = .ok (.ifCond .eq 7, 3) := by decide +kernel
theorem dX11_read_155 : decode cX11_read 155 = .ok (.iconst 1, 1) := by decide +kernel
theorem dX11_read_156 : decode cX11_read 156 = .ok (.goto 4, 3) := by decide +kernel
theorem dX11_read_159 : decode cX11_read 159 = .ok (.iconst 0, 1) := by decide +kernel
theorem dX11_read_160 : decode cX11_read 160 = .ok (.ireturn, 1) := by decide +kernel
set_option maxRecDepth 20000 in
theorem ggX11_read_X11_tests : GoodIn wsX11_read wsX11_tests := goodIn_sub (List.forall_mem_cons.mpr ⟨List.mem_cons_of_mem _ (List.mem_append_left _ (List.mem_append_left _ (List.mem_of_getElem? (l := wsX11_read_r1) (i := 10) rfl))), (List.forall_mem_append.mpr ⟨(List.forall_mem_append.mpr ⟨(List.forall_mem_cons.mpr ⟨List.mem_cons_of_mem _ (List.mem_append_left _ (List.mem_append_left _ (List.mem_of_getElem? (l := wsX11_read_r1) (i := 0) rfl))), (List.forall_mem_cons.mpr ⟨List.mem_cons_of_mem _ (List.mem_append_left _ (List.mem_append_left _ (List.mem_of_getElem? (l := wsX11_read_r1) (i := 11) rfl))), (List.forall_mem_cons.mpr ⟨List.mem_cons_of_mem _ (List.mem_append_left _ (List.mem_append_left _ (List.mem_of_getElem? (l := wsX11_read_r1) (i := 12) rfl))), (List.forall_mem_cons.mpr ⟨List.mem_cons_of_mem _ (List.mem_append_left _ (List.mem_append_left _ (List.mem_of_getElem? (l := wsX11_read_r1) (i := 13) rfl))), (List.forall_mem_cons.mpr ⟨List.mem_cons_of_mem _ (List.mem_append_left _ (List.mem_append_left _ (List.mem_of_getElem? (l := wsX11_read_r1) (i := 9) rfl))), (List.forall_mem_cons.mpr ⟨List.mem_cons_of_mem _ (List.mem_append_left _ (List.mem_append_left _ (List.mem_of_getElem? (l := wsX11_read_r1) (i := 14) rfl))), (List.forall_mem_cons.mpr ⟨List.mem_cons_of_mem _ (List.mem_append_left _ (List.mem_append_left _ (List.mem_of_getElem? (l := wsX11_read_r1) (i := 15) rfl))), (List.forall_mem_cons.mpr ⟨List.mem_cons_of_mem _ (List.mem_append_left _ (List.mem_append_left _ (List.mem_of_getElem? (l := wsX11_read_r1) (i := 16) rfl))), (List.forall_mem_cons.mpr ⟨List.mem_cons_of_mem _ (List.mem_append_left _ (List.mem_append_left _ (List.mem_of_getElem? (l := wsX11_read_r1) (i := 17) rfl))), (List.forall_mem_cons.mpr ⟨List.mem_cons_of_mem _ (List.mem_append_left _ (List.mem_append_left _ (List.mem_of_getElem? (l := wsX11_read_r1) (i := 1) rfl))), (List.forall_mem_cons.mpr ⟨List.mem_cons_of_mem _ (List.mem_append_left _ (List.mem_append_left _ (List.mem_of_getElem? (l := wsX11_read_r1) (i := 18) rfl))), (List.forall_mem_cons.mpr ⟨List.mem_cons_of_mem _ (List.mem_append_left _ (List.mem_append_left _ (List.mem_of_getElem? (l := wsX11_read_r1) (i := 19) rfl))), (List.forall_mem_cons.mpr ⟨List.mem_cons_of_mem _ (List.mem_append_left _ (List.mem_append_left _ (List.mem_of_getElem? (l := wsX11_read_r1) (i := 20) rfl))), (List.forall_mem_cons.mpr ⟨List.mem_cons_of_mem _ (List.mem_append_left _ (List.mem_append_left _ (List.mem_of_getElem? (l := wsX11_read_r1) (i := 21) rfl))), (List.forall_mem_cons.mpr ⟨List.mem_cons_of_mem _ (List.mem_append_left _ (List.mem_append_left _ (List.mem_of_getElem? (l := wsX11_read_r1) (i := 22) rfl))), (List.forall_mem_cons.mpr ⟨List.mem_cons_of_mem _ (List.mem_append_left _ (List.mem_append_left _ (List.mem_of_getElem? (l := wsX11_read_r1) (i := 23) rfl))), (List.forall_mem_cons.mpr ⟨List.mem_cons_of_mem _ (List.mem_append_left _ (List.mem_append_right _ (List.mem_append_left _ (List.mem_of_getElem? (l := wsX11_read_r2) (i := 0) rfl)))), (List.forall_mem_cons.mpr ⟨List.mem_cons_of_mem _ (List.mem_append_left _ (List.mem_append_right _ (List.mem_append_left _ (List.mem_of_getElem? (l := wsX11_read_r2) (i := 1) rfl)))), (List.forall_mem_cons.mpr ⟨List.mem_cons_of_mem _ (List.mem_append_left _ (List.mem_append_right _ (List.mem_append_left _ (List.mem_of_getElem? (l := wsX11_read_r2) (i := 2) rfl)))), (List.forall_mem_cons.mpr ⟨List.mem_cons_of_mem _ (List.mem_append_left _ (List.mem_append_right _ (List.mem_append_left _ (List.mem_of_getElem? (l := wsX11_read_r2) (i := 3) rfl)))), (List.forall_mem_cons.mpr ⟨List.mem_cons_of_mem _ (List.mem_append_left _ (List.mem_append_right _ (List.mem_append_left _ (List.mem_of_getElem? (l := wsX11_read_r2) (i := 4) rfl)))), (List.forall_mem_cons.mpr ⟨List.mem_cons_of_mem _ (List.mem_append_left _ (List.mem_append_left _ (List.mem_of_getElem? (l := wsX11_read_r1) (i := 2) rfl))), (List.forall_mem_cons.mpr ⟨List.mem_cons_of_mem _ (List.mem_append_left _ (List.mem_append_left _ (List.mem_of_getElem? (l := wsX11_read_r1) (i := 3) rfl))), (List.forall_mem_cons.mpr ⟨List.mem_cons_of_mem _ (List.mem_append_left _ (List.mem_append_right _ (List.mem_append_left _ (List.mem_of_getElem? (l := wsX11_read_r2) (i := 5) rfl)))), (fun _ h => nomatch h)⟩)⟩)⟩)⟩)⟩)⟩)⟩)⟩)⟩)⟩)⟩)⟩)⟩)⟩)⟩)⟩)⟩)⟩)⟩)⟩)⟩)⟩)⟩)⟩), (List.forall_mem_cons.mpr ⟨List.mem_cons_of_mem _ (List.mem_append_left _ (List.mem_append_right _ (List.mem_append_left _ (List.mem_of_getElem? (l := wsX11_read_r2) (i := 6) rfl)))), (List.forall_mem_cons.mpr ⟨List.mem_cons_of_mem _ (List.mem_append_left _ (List.mem_append_right _ (List.mem_append_left _ (List.mem_of_getElem? (l := wsX11_read_r2) (i := 7) rfl)))), (List.forall_mem_cons.mpr ⟨List.mem_cons_of_mem _ (List.mem_append_left _ (List.mem_append_right _ (List.mem_append_left _ (List.mem_of_getElem? (l := wsX11_read_r2) (i := 8) rfl)))), (List.forall_mem_cons.mpr ⟨List.mem_cons_of_mem _ (List.mem_append_left _ (List.mem_append_left _ (List.mem_of_getElem? (l := wsX11_read_r1) (i := 6) rfl))), (List.forall_mem_cons.mpr ⟨List.mem_cons_of_mem _ (List.mem_append_left _ (List.mem_append_left _ (List.mem_of_getElem? (l := wsX11_read_r1) (i := 7) rfl))), (List.forall_mem_cons.mpr ⟨List.mem_cons_of_mem _ (List.mem_append_left _ (List.mem_append_left _ (List.mem_of_getElem? (l := wsX11_read_r1) (i := 8) rfl))), (List.forall_mem_cons.mpr ⟨List.mem_cons_of_mem _ (List.mem_append_left _ (List.mem_append_right _ (List.mem_append_left _ (List.mem_of_getElem? (l := wsX11_read_r2) (i := 9) rfl)))), (List.forall_mem_cons.mpr ⟨List.mem_cons_of_mem _ (List.mem_append_left _ (List.mem_append_right _ (List.mem_append_left _ (List.mem_of_getElem? (l := wsX11_read_r2) (i := 10) rfl)))), (List.forall_mem_cons.mpr ⟨List.mem_cons_of_mem _ (List.mem_append_left _ (List.mem_append_right _ (List.mem_append_left _ (List.mem_of_getElem? (l := wsX11_read_r2) (i := 11) rfl)))), (List.forall_mem_cons.mpr ⟨List.mem_cons_of_mem _ (List.mem_append_left _ (List.mem_append_right _ (List.mem_append_left _ (List.mem_of_getElem? (l := wsX11_read_r2) (i := 12) rfl)))), (List.forall_mem_cons.mpr ⟨List.mem_cons_of_mem _ (List.mem_append_left _ (List.mem_append_right _ (List.mem_append_left _ (List.mem_of_getElem? (l := wsX11_read_r2) (i := 13) rfl)))), (List.forall_mem_cons.mpr ⟨List.mem_cons_of_mem _ (List.mem_append_left _ (List.mem_append_right _ (List.mem_append_left _ (List.mem_of_getElem? (l := wsX11_read_r2) (i := 14) rfl)))), (List.forall_mem_cons.mpr ⟨List.mem_cons_of_mem _ (List.mem_append_left _ (List.mem_append_right _ (List.mem_append_left _ (List.mem_of_getElem? (l := wsX11_read_r2) (i := 15) rfl)))), (List.forall_mem_cons.mpr ⟨List.mem_cons_of_mem _ (List.mem_append_left _ (List.mem_append_right _ (List.mem_append_left _ (List.mem_of_getElem? (l := wsX11_read_r2) (i := 16) rfl)))), (List.forall_mem_cons.mpr ⟨List.mem_cons_of_mem _ (List.mem_append_left _ (List.mem_append_right _ (List.mem_append_left _ (List.mem_of_getElem? (l := wsX11_read_r2) (i := 17) rfl)))), (List.forall_mem_cons.mpr ⟨List.mem_cons_of_mem _ (List.mem_append_left _ (List.mem_append_right _ (List.mem_append_left _ (List.mem_of_getElem? (l := wsX11_read_r2) (i := 18) rfl)))), (List.forall_mem_cons.mpr ⟨List.mem_cons_of_mem _ (List.mem_append_left _ (List.mem_append_right _ (List.mem_append_left _ (List.mem_of_getElem? (l := wsX11_read_r2) (i := 19) rfl)))), (List.forall_mem_cons.mpr ⟨List.mem_cons_of_mem _ (List.mem_append_left _ (List.mem_append_right _ (List.mem_append_left _ (List.mem_of_getElem? (l := wsX11_read_r2) (i := 20) rfl)))), (List.forall_mem_cons.mpr ⟨List.mem_cons_of_mem _ (List.mem_append_left _ (List.mem_append_right _ (List.mem_append_left _ (List.mem_of_getElem? (l := wsX11_read_r2) (i := 21) rfl)))), (List.forall_mem_cons.mpr ⟨List.mem_cons_of_mem _ (List.mem_append_left _ (List.mem_append_right _ (List.mem_append_left _ (List.mem_of_getElem? (l := wsX11_read_r2) (i := 22) rfl)))), (List.forall_mem_cons.mpr ⟨List.mem_cons_of_mem _ (List.mem_append_left _ (List.mem_append_right _ (List.mem_append_left _ (List.mem_of_getElem? (l := wsX11_read_r2) (i := 23) rfl)))), (List.forall_mem_cons.mpr ⟨List.mem_cons_of_mem _ (List.mem_append_left _ (List.mem_append_right _ (List.mem_append_right _ (List.mem_of_getElem? (l := wsX11_read_r3) (i := 0) rfl)))), (fun _ h => nomatch h)⟩)⟩)⟩)⟩)⟩)⟩)⟩)⟩)⟩)⟩)⟩)⟩)⟩)⟩)⟩)⟩)⟩)⟩)⟩)⟩)⟩)⟩)⟩), (fun _ h => List.mem_cons_of_mem _ (List.mem_append_right _ (h)))⟩)⟩) (by decide +kernel)
set_option maxRecDepth 20000 in
theorem gX11_read_X11_tests : GoodIn wsX11_read (wsV RX11 170 RX11 yX11_tests wsX11_tests) := goodIn_app (goodIn_of _ (by decide +kernel)) ggX11_read_X11_tests
set_option maxRecDepth 20000 in
theorem ggX11_read_X11_sign : GoodIn wsX11_read wsX11_sign := goodIn_sub (List.forall_mem_cons.mpr ⟨List.mem_cons_of_mem _ (List.mem_append_left _ (List.mem_append_right _ (List.mem_append_left _ (List.mem_of_getElem? (l := wsX11_read_r2) (i := 12) rfl)))), (List.forall_mem_append.mpr ⟨(List.forall_mem_cons.mpr ⟨List.mem_cons_of_mem _ (List.mem_append_left _ (List.mem_append_left _ (List.mem_of_getElem? (l := wsX11_read_r1) (i := 0) rfl))), (List.forall_mem_cons.mpr ⟨List.mem_cons_of_mem _ (List.mem_append_left _ (List.mem_append_left _ (List.mem_of_getElem? (l := wsX11_read_r1) (i := 14) rfl))), (List.forall_mem_cons.mpr ⟨List.mem_cons_of_mem _ (List.mem_append_left _ (List.mem_append_left _ (List.mem_of_getElem? (l := wsX11_read_r1) (i := 15) rfl))), (List.forall_mem_cons.mpr ⟨List.mem_cons_of_mem _ (List.mem_append_left _ (List.mem_append_left _ (List.mem_of_getElem? (l := wsX11_read_r1) (i := 16) rfl))), (List.forall_mem_cons.mpr ⟨List.mem_cons_of_mem _ (List.mem_append_left _ (List.mem_append_left _ (List.mem_of_getElem? (l := wsX11_read_r1) (i := 9) rfl))), (List.forall_mem_cons.mpr ⟨List.mem_cons_of_mem _ (List.mem_append_left _ (List.mem_append_left _ (List.mem_of_getElem? (l := wsX11_read_r1) (i := 17) rfl))), (List.forall_mem_cons.mpr ⟨List.mem_cons_of_mem _ (List.mem_append_left _ (List.mem_append_left _ (List.mem_of_getElem? (l := wsX11_read_r1) (i := 1) rfl))), (List.forall_mem_cons.mpr ⟨List.mem_cons_of_mem _ (List.mem_append_left _ (List.mem_append_left _ (List.mem_of_getElem? (l := wsX11_read_r1) (i := 18) rfl))), (List.forall_mem_cons.mpr ⟨List.mem_cons_of_mem _ (List.mem_append_left _ (List.mem_append_left _ (List.mem_of_getElem? (l := wsX11_read_r1) (i := 19) rfl))), (List.forall_mem_cons.mpr ⟨List.mem_cons_of_mem _ (List.mem_append_left _ (List.mem_append_left _ (List.mem_of_getElem? (l := wsX11_read_r1) (i := 20) rfl))), (List.forall_mem_cons.mpr ⟨List.mem_cons_of_mem _ (List.mem_append_left _ (List.mem_append_left _ (List.mem_of_getElem? (l := wsX11_read_r1) (i := 21) rfl))), (List.forall_mem_cons.mpr ⟨List.mem_cons_of_mem _ (List.mem_append_left _ (List.mem_append_left _ (List.mem_of_getElem? (l := wsX11_read_r1) (i := 22) rfl))), (List.forall_mem_cons.mpr ⟨List.mem_cons_of_mem _ (List.mem_append_left _ (List.mem_append_left _ (List.mem_of_getElem? (l := wsX11_read_r1) (i := 23) rfl))), (List.forall_mem_cons.mpr ⟨List.mem_cons_of_mem _ (List.mem_append_left _ (List.mem_append_right _ (List.mem_append_left _ (List.mem_of_getElem? (l := wsX11_read_r2) (i := 5) rfl)))), (List.forall_mem_cons.mpr ⟨List.mem_cons_of_mem _ (List.mem_append_left _ (List.mem_append_right _ (List.mem_append_left _ (List.mem_of_getElem? (l := wsX11_read_r2) (i := 6) rfl)))), (List.forall_mem_cons.mpr ⟨List.mem_cons_of_mem _ (List.mem_append_left _ (List.mem_append_right _ (List.mem_append_left _ (List.mem_of_getElem? (l := wsX11_read_r2) (i := 7) rfl)))), (List.forall_mem_cons.mpr ⟨List.mem_cons_of_mem _ (List.mem_append_left _ (List.mem_append_right _ (List.mem_append_left _ (List.mem_of_getElem? (l := wsX11_read_r2) (i := 8) rfl)))), (fun _ h => nomatch h)⟩)⟩)⟩)⟩)⟩)⟩)⟩)⟩)⟩)⟩)⟩)⟩)⟩)⟩)⟩)⟩)⟩), (fun _ h => List.mem_cons_of_mem _ (List.mem_append_right _ (h)))⟩)⟩) (by decide +kernel)
set_option maxRecDepth 20000 in
theorem gX11_read_X11_sign : GoodIn wsX11_read (wsV RX11 173 RX11 yX11_sign wsX11_sign) := goodIn_app (goodIn_of _ (by decide +kernel)) ggX11_read_X11_sign
set_option maxRecDepth 20000 in
theorem ggX11_read_X11_isFine : GoodIn wsX11_read wsX11_isFine := goodIn_sub (List.forall_mem_cons.mpr ⟨List.mem_cons_of_mem _ (List.mem_append_left _ (List.mem_append_left _ (List.mem_of_getElem? (l := wsX11_read_r1) (i := 17) rfl))), (List.forall_mem_append.mpr ⟨(List.forall_mem_cons.mpr ⟨List.mem_cons_of_mem _ (List.mem_append_left _ (List.mem_append_left _ (List.mem_of_getElem? (l := wsX11_read_r1) (i := 1) rfl))), (fun _ h => nomatch h)⟩), (fun _ h => List.mem_cons_of_mem _ (List.mem_append_right _ (h)))⟩)⟩) (by decide +kernel)
set_option maxRecDepth 20000 in
theorem gX11_read_X11_isFine : GoodIn wsX11_read (wsV RX11 163 RX11 yX11_isFine wsX11_isFine) := goodIn_app (goodIn_of _ (by decide +kernel)) ggX11_read_X11_isFine
set_option maxRecDepth 20000 in
theorem ggX11_read_X11_look : GoodIn wsX11_read wsX11_look := goodIn_sub (List.forall_mem_cons.mpr ⟨List.mem_cons_of_mem _ (List.mem_append_left _ (List.mem_append_left _ (List.mem_of_getElem? (l := wsX11_read_r1) (i := 21) rfl))), (List.forall_mem_append.mpr ⟨(List.forall_mem_cons.mpr ⟨List.mem_cons_of_mem _ (List.mem_append_left _ (List.mem_append_left _ (List.mem_of_getElem? (l := wsX11_read_r1) (i := 0) rfl))), (List.forall_mem_cons.mpr ⟨List.mem_cons_of_mem _ (List.mem_append_left _ (List.mem_append_left _ (List.mem_of_getElem? (l := wsX11_read_r1) (i := 22) rfl))), (List.forall_mem_cons.mpr ⟨List.mem_cons_of_mem _ (List.mem_append_left _ (List.mem_append_left _ (List.mem_of_getElem? (l := wsX11_read_r1) (i := 23) rfl))), (fun _ h => nomatch h)⟩)⟩)⟩), (fun _ h => List.mem_cons_of_mem _ (List.mem_append_right _ (h)))⟩)⟩) (by decide +kernel)
set_option maxRecDepth 20000 in
theorem gX11_read_X11_look : GoodIn wsX11_read (wsV RX11 154 RX11 yX11_look wsX11_look) := goodIn_app (goodIn_of _ (by decide +kernel)) ggX11_read_X11_look
set_option maxRecDepth 20000 in
theorem ggX11_read_X11_wrong : GoodIn wsX11_read wsX11_wrong := goodIn_sub (List.forall_mem_cons.mpr ⟨List.mem_cons_of_mem _ (List.mem_append_left _ (List.mem_append_right _ (List.mem_append_left _ (List.mem_of_getElem? (l := wsX11_read_r2) (i := 8) rfl)))), (List.forall_mem_append.mpr ⟨(List.forall_mem_cons.mpr ⟨List.mem_cons_of_mem _ (List.mem_append_left _ (List.mem_append_left _ (List.mem_of_getElem? (l := wsX11_read_r1) (i := 1) rfl))), (List.forall_mem_cons.mpr ⟨List.mem_cons_of_mem _ (List.mem_append_left _ (List.mem_append_left _ (List.mem_of_getElem? (l := wsX11_read_r1) (i := 0) rfl))), (fun _ h => nomatch h)⟩)⟩), (fun _ h => List.mem_cons_of_mem _ (List.mem_append_right _ (h)))⟩)⟩) (by decide +kernel)
set_option maxRecDepth 20000 in
theorem gX11_read_X11_wrong : GoodIn wsX11_read (wsV RX11 160 RX11 yX11_wrong wsX11_wrong) := goodIn_app (goodIn_of _ (by decide +kernel)) ggX11_read_X11_wrong
set_option maxRecDepth 20000 in
theorem ggX11_read_X11_number : GoodIn wsX11_read wsX11_number := goodIn_sub (List.forall_mem_cons.mpr ⟨List.mem_cons_of_mem _ (List.mem_append_left _ (List.mem_append_right _ (List.mem_append_left _ (List.mem_of_getElem? (l := wsX11_read_r2) (i := 16) rfl)))), (List.forall_mem_append.mpr ⟨(List.forall_mem_cons.mpr ⟨List.mem_cons_of_mem _ (List.mem_append_left _ (List.mem_append_left _ (List.mem_of_getElem? (l := wsX11_read_r1) (i := 0) rfl))), (List.forall_mem_cons.mpr ⟨List.mem_cons_of_mem _ (List.mem_append_left _ (List.mem_append_left _ (List.mem_of_getElem? (l := wsX11_read_r1) (i := 22) rfl))), (List.forall_mem_cons.mpr ⟨List.mem_cons_of_mem _ (List.mem_append_left _ (List.mem_append_left _ (List.mem_of_getElem? (l := wsX11_read_r1) (i := 23) rfl))), (List.forall_mem_cons.mpr ⟨List.mem_cons_of_mem _ (List.mem_append_left _ (List.mem_append_left _ (List.mem_of_getElem? (l := wsX11_read_r1) (i := 18) rfl))), (List.forall_mem_cons.mpr ⟨List.mem_cons_of_mem _ (List.mem_append_left _ (List.mem_append_left _ (List.mem_of_getElem? (l := wsX11_read_r1) (i := 19) rfl))), (List.forall_mem_cons.mpr ⟨List.mem_cons_of_mem _ (List.mem_append_left _ (List.mem_append_left _ (List.mem_of_getElem? (l := wsX11_read_r1) (i := 20) rfl))), (List.forall_mem_cons.mpr ⟨List.mem_cons_of_mem _ (List.mem_append_left _ (List.mem_append_left _ (List.mem_of_getElem? (l := wsX11_read_r1) (i := 9) rfl))), (List.forall_mem_cons.mpr ⟨List.mem_cons_of_mem _ (List.mem_append_left _ (List.mem_append_left _ (List.mem_of_getElem? (l := wsX11_read_r1) (i := 21) rfl))), (List.forall_mem_cons.mpr ⟨List.mem_cons_of_mem _ (List.mem_append_left _ (List.mem_append_right _ (List.mem_append_left _ (List.mem_of_getElem? (l := wsX11_read_r2) (i := 17) rfl)))), (List.forall_mem_cons.mpr ⟨List.mem_cons_of_mem _ (List.mem_append_left _ (List.mem_append_right _ (List.mem_append_left _ (List.mem_of_getElem? (l := wsX11_read_r2) (i := 18) rfl)))), (List.forall_mem_cons.mpr ⟨List.mem_cons_of_mem _ (List.mem_append_left _ (List.mem_append_right _ (List.mem_append_left _ (List.mem_of_getElem? (l := wsX11_read_r2) (i := 19) rfl)))), (List.forall_mem_cons.mpr ⟨List.mem_cons_of_mem _ (List.mem_append_left _ (List.mem_append_right _ (List.mem_append_left _ (List.mem_of_getElem? (l := wsX11_read_r2) (i := 5) rfl)))), (List.forall_mem_cons.mpr ⟨List.mem_cons_of_mem _ (List.mem_append_left _ (List.mem_append_right _ (List.mem_append_left _ (List.mem_of_getElem? (l := wsX11_read_r2) (i := 6) rfl)))), (List.forall_mem_cons.mpr ⟨List.mem_cons_of_mem _ (List.mem_append_left _ (List.mem_append_right _ (List.mem_append_left _ (List.mem_of_getElem? (l := wsX11_read_r2) (i := 7) rfl)))), (List.forall_mem_cons.mpr ⟨List.mem_cons_of_mem _ (List.mem_append_left _ (List.mem_append_right _ (List.mem_append_left _ (List.mem_of_getElem? (l := wsX11_read_r2) (i := 8) rfl)))), (List.forall_mem_cons.mpr ⟨List.mem_cons_of_mem _ (List.mem_append_left _ (List.mem_append_left _ (List.mem_of_getElem? (l := wsX11_read_r1) (i := 1) rfl))), (fun _ h => nomatch h)⟩)⟩)⟩)⟩)⟩)⟩)⟩)⟩)⟩)⟩)⟩)⟩)⟩)⟩)⟩)⟩), (fun _ h => List.mem_cons_of_mem _ (List.mem_append_right _ (h)))⟩)⟩) (by decide +kernel)
set_option maxRecDepth 20000 in
theorem gX11_read_X11_number : GoodIn wsX11_read (wsV RX11 176 RX11 yX11_number wsX11_number) := goodIn_app (goodIn_of _ (by decide +kernel)) ggX11_read_X11_number
theorem kX11_read_0 : (.fieldLink RX11 148 "RunDeskModel" "at" "I" : Cond) ∈ wsX11_read := List.mem_of_getElem? (i := 1) (by decide +kernel)
theorem qX11_read_X11 : ∀ w ∈ wsX110, w ∈ wsX11_read := fun _ h => List.mem_cons_of_mem _ (List.mem_append_right _ (h))
theorem kX11_read_2 : (.fieldLink RX11 151 "RunDeskModel" "fault" "I" : Cond) ∈ wsX11_read := List.mem_of_getElem? (i := 2) (by decide +kernel)
theorem kX11_read_3 : (.fieldLink RX11 167 "RunDeskModel" "open" "I" : Cond) ∈ wsX11_read := List.mem_of_getElem? (i := 3) (by decide +kernel)
theorem kX11_read_4 : (.fieldLink RX11 179 "RunDeskModel" "asked" "I" : Cond) ∈ wsX11_read := List.mem_of_getElem? (i := 4) (by decide +kernel)
theorem kX11_read_5 : (.fieldLink RX11 188 "RunDeskModel" "byGun" "Z" : Cond) ∈ wsX11_read := List.mem_of_getElem? (i := 5) (by decide +kernel)
theorem kX11_read_6 : (.fieldLink RX11 192 "RunDeskModel" "prizeMost" "I" : Cond) ∈ wsX11_read := List.mem_of_getElem? (i := 6) (by decide +kernel)
set_option maxHeartbeats 4000000 in
set_option maxRecDepth 100000 in
theorem mX11_read (l : Launch) (D : va_G) (cB cI cZ : ClassId) (a_t : Nat) (a_t_now : Nat) (a_t_kept : Nat) (a_t_text : Nat) (a_t_passing : Nat) (a_t_order : Nat) (a_t_times : Nat) (t_thrown : Int32) (t_isKept : Int32) (t_length : Int32) (t_at : Int32) (t_fault : Int32) (t_open : Int32) (t_asked : Int32) (t_byGun : Int32) (t_prizeMost : Int32) (t_listed : Int32) (t_now : Nat → Int32) (t_text : Nat → Int32) (sz : Nat) (x1 : Int32) (N : Nat) (b0 : Bool) (t_asked' : Int32) (t_at' : Int32) (t_byGun' : Int32) (t_fault' : Int32) (t_open' : Int32) (t_prizeMost' : Int32) (h : fX11_read N t_asked t_at t_byGun t_fault t_length t_open t_prizeMost t_now t_text x1 = some (b0, t_asked', t_at', t_byGun', t_fault', t_open', t_prizeMost')) : Met l yX11_read wsX11_read ({ frames := 29, cells := 0, slots := 0, locals := 663 } : Room) (va_Pc [.ref a_t, .int x1] (zPre D (zT cB cI cZ) [(a_t, .inr (11, [.int t_thrown, .ref a_t_now, .ref a_t_kept, .int t_isKept, .ref a_t_text, .int t_length, .ref a_t_passing, .int t_at, .int t_fault, .int t_open, .int t_asked, .int t_byGun, .int t_prizeMost, .ref a_t_order, .ref a_t_times, .int t_listed])), (a_t_now, .inl (cI, 1562, .inl t_now)), (a_t_text, .inl (cB, 200, .inl t_text))] sz)) (zQi (zb b0) D (zT cB cI cZ) [(a_t, .inr (11, [.int t_thrown, .ref a_t_now, .ref a_t_kept, .int t_isKept, .ref a_t_text, .int t_length, .ref a_t_passing, .int t_at', .int t_fault', .int t_open', .int t_asked', .int t_byGun', .int t_prizeMost', .ref a_t_order, .ref a_t_times, .int t_listed])), (a_t_now, .inl (cI, 1562, .inl t_now)), (a_t_text, .inl (cB, 200, .inl t_text))] (va_A [(a_t, .inr (11, [.int t_thrown, .ref a_t_now, .ref a_t_kept, .int t_isKept, .ref a_t_text, .int t_length, .ref a_t_passing, .int t_at, .int t_fault, .int t_open, .int t_asked, .int t_byGun, .int t_prizeMost, .ref a_t_order, .ref a_t_times, .int t_listed])), (a_t_now, .inl (cI, 1562, .inl t_now)), (a_t_text, .inl (cB, 200, .inl t_text))] sz)) 0 0 (va_A [(a_t, .inr (11, [.int t_thrown, .ref a_t_now, .ref a_t_kept, .int t_isKept, .ref a_t_text, .int t_length, .ref a_t_passing, .int t_at, .int t_fault, .int t_open, .int t_asked, .int t_byGun, .int t_prizeMost, .ref a_t_order, .ref a_t_times, .int t_listed])), (a_t_now, .inl (cI, 1562, .inl t_now)), (a_t_text, .inl (cB, 200, .inl t_text))] sz) := by
  refine Met.ofW (cc := cX11_read) (maxL := 4) (ret := (some .boolean)) (by decide) rfl ?_
  intro p e s m args below meth c s₁ B hml hv
  obtain ⟨rfl, hsz, hP, hK, hN, hZ, hD0⟩ := hv
  have hx := B.exec
  have hb := B.bytes
  have hr := B.returns
  have hts := atoms_spec (ws := wsX11_read) B.pre
  have hown : s.vm.findClass RX11 = some m.cls := findClass_of_methodNamed B.named
  have hlocks := B.notSynchronized
  subst hsz
  have hD := hD0.self (sz := s.heap.size)
  generalize hAe : va_A [(a_t, .inr (11, [.int t_thrown, .ref a_t_now, .ref a_t_kept, .int t_isKept, .ref a_t_text, .int t_length, .ref a_t_passing, .int t_at, .int t_fault, .int t_open, .int t_asked, .int t_byGun, .int t_prizeMost, .ref a_t_order, .ref a_t_times, .int t_listed])), (a_t_now, .inl (cI, 1562, .inl t_now)), (a_t_text, .inl (cB, 200, .inl t_text))] s.heap.size = A at hD hZ ⊢
  have hA : ∀ q : Nat, s.heap.size ≤ q → A q := fun q h => by rw [← hAe]; exact Or.inr h
  have hS : va_S A s.heap s.heap [] := va_S.rf
  have hl := lv_entry ([.ref a_t, .int x1]) (n := 4) (Nat.le_of_ble_eq_true rfl)
  rw [lg_entry_eq]
  generalize (lg_sl ([.ref a_t, .int x1]) ++ List.replicate (4 - (lg_sl ([.ref a_t, .int x1])).length) Slot.unset).toArray = ls at hl ⊢
  have hl : lv_has ls 4 [(0, .ref a_t), (1, .int x1)] := hl
  unfold fX11_read at h
  refine lv_aload_n hx hb dX11_read_0 rfl (lv_at hl 0 rfl) ?_
  refine lv_iconst (v := (nI 0)) hx hb dX11_read_1 rfl ?_
  refine va_put (D := D) (ci := 11) (ty := .int) (C := RX11) (T := TX11) (N := 16) hx hb hts qX11_read_X11 tyX11 tyX11_ok nmX11 hown hK hP hD hS 0 rfl rfl 7 (by decide) (hts _ kX11_read_0) (fun _ h9 => h9) rfl (by decide +kernel) rfl (by first | rfl | exact zz_fit) (Nat.le_of_ble_eq_true rfl) dX11_read_2 (fun H locs hP hD hS => ?_)
  have hP : va_P D vwCl [(a_t, .inr (11, [.int t_thrown, .ref a_t_now, .ref a_t_kept, .int t_isKept, .ref a_t_text, .int t_length, .ref a_t_passing, .int (nI 0), .int t_fault, .int t_open, .int t_asked, .int t_byGun, .int t_prizeMost, .ref a_t_order, .ref a_t_times, .int t_listed])), (a_t_now, .inl (cI, 1562, .inl t_now)), (a_t_text, .inl (cB, 200, .inl t_text))] H := hP
  have hD : va_D A [(a_t, .inr (11, [.int t_thrown, .ref a_t_now, .ref a_t_kept, .int t_isKept, .ref a_t_text, .int t_length, .ref a_t_passing, .int (nI 0), .int t_fault, .int t_open, .int t_asked, .int t_byGun, .int t_prizeMost, .ref a_t_order, .ref a_t_times, .int t_listed])), (a_t_now, .inl (cI, 1562, .inl t_now)), (a_t_text, .inl (cB, 200, .inl t_text))] := hD
  refine lv_aload_n hx hb dX11_read_5 rfl (lv_at hl 0 rfl) ?_
  refine lv_iconst (v := (-1 : Int32)) hx hb dX11_read_6 rfl ?_
  refine va_put (D := D) (ci := 11) (ty := .int) (C := RX11) (T := TX11) (N := 16) hx hb hts qX11_read_X11 tyX11 tyX11_ok nmX11 hown hK hP hD hS 0 rfl rfl 8 (by decide) (hts _ kX11_read_2) (fun _ h9 => h9) rfl (by decide +kernel) rfl (by first | rfl | exact zz_fit) (Nat.le_of_ble_eq_true rfl) dX11_read_7 (fun H locs hP hD hS => ?_)
  have hP : va_P D vwCl [(a_t, .inr (11, [.int t_thrown, .ref a_t_now, .ref a_t_kept, .int t_isKept, .ref a_t_text, .int t_length, .ref a_t_passing, .int (nI 0), .int (-1 : Int32), .int t_open, .int t_asked, .int t_byGun, .int t_prizeMost, .ref a_t_order, .ref a_t_times, .int t_listed])), (a_t_now, .inl (cI, 1562, .inl t_now)), (a_t_text, .inl (cB, 200, .inl t_text))] H := hP
  have hD : va_D A [(a_t, .inr (11, [.int t_thrown, .ref a_t_now, .ref a_t_kept, .int t_isKept, .ref a_t_text, .int t_length, .ref a_t_passing, .int (nI 0), .int (-1 : Int32), .int t_open, .int t_asked, .int t_byGun, .int t_prizeMost, .ref a_t_order, .ref a_t_times, .int t_listed])), (a_t_now, .inl (cI, 1562, .inl t_now)), (a_t_text, .inl (cB, 200, .inl t_text))] := hD
  refine lv_aload_n hx hb dX11_read_10 rfl (lv_at hl 0 rfl) ?_
  refine lv_iconst (v := (nI 0)) hx hb dX11_read_11 rfl ?_
  refine va_put (D := D) (ci := 11) (ty := .int) (C := RX11) (T := TX11) (N := 16) hx hb hts qX11_read_X11 tyX11 tyX11_ok nmX11 hown hK hP hD hS 0 rfl rfl 9 (by decide) (hts _ kX11_read_3) (fun _ h9 => h9) rfl (by decide +kernel) rfl (by first | rfl | exact zz_fit) (Nat.le_of_ble_eq_true rfl) dX11_read_12 (fun H locs hP hD hS => ?_)
  have hP : va_P D vwCl [(a_t, .inr (11, [.int t_thrown, .ref a_t_now, .ref a_t_kept, .int t_isKept, .ref a_t_text, .int t_length, .ref a_t_passing, .int (nI 0), .int (-1 : Int32), .int (nI 0), .int t_asked, .int t_byGun, .int t_prizeMost, .ref a_t_order, .ref a_t_times, .int t_listed])), (a_t_now, .inl (cI, 1562, .inl t_now)), (a_t_text, .inl (cB, 200, .inl t_text))] H := hP
  have hD : va_D A [(a_t, .inr (11, [.int t_thrown, .ref a_t_now, .ref a_t_kept, .int t_isKept, .ref a_t_text, .int t_length, .ref a_t_passing, .int (nI 0), .int (-1 : Int32), .int (nI 0), .int t_asked, .int t_byGun, .int t_prizeMost, .ref a_t_order, .ref a_t_times, .int t_listed])), (a_t_now, .inl (cI, 1562, .inl t_now)), (a_t_text, .inl (cB, 200, .inl t_text))] := hD
  refine lv_aload_n hx hb dX11_read_15 rfl (lv_at hl 0 rfl) ?_
  refine lv_iload_n hx hb dX11_read_16 rfl (lv_at hl 1 rfl) ?_
  refine va_put (D := D) (ci := 11) (ty := .int) (C := RX11) (T := TX11) (N := 16) hx hb hts qX11_read_X11 tyX11 tyX11_ok nmX11 hown hK hP hD hS 0 rfl rfl 10 (by decide) (hts _ kX11_read_4) (fun _ h9 => h9) rfl (by decide +kernel) rfl (by first | rfl | exact zz_fit) (Nat.le_of_ble_eq_true rfl) dX11_read_17 (fun H locs hP hD hS => ?_)
  have hP : va_P D vwCl [(a_t, .inr (11, [.int t_thrown, .ref a_t_now, .ref a_t_kept, .int t_isKept, .ref a_t_text, .int t_length, .ref a_t_passing, .int (nI 0), .int (-1 : Int32), .int (nI 0), .int x1, .int t_byGun, .int t_prizeMost, .ref a_t_order, .ref a_t_times, .int t_listed])), (a_t_now, .inl (cI, 1562, .inl t_now)), (a_t_text, .inl (cB, 200, .inl t_text))] H := hP
  have hD : va_D A [(a_t, .inr (11, [.int t_thrown, .ref a_t_now, .ref a_t_kept, .int t_isKept, .ref a_t_text, .int t_length, .ref a_t_passing, .int (nI 0), .int (-1 : Int32), .int (nI 0), .int x1, .int t_byGun, .int t_prizeMost, .ref a_t_order, .ref a_t_times, .int t_listed])), (a_t_now, .inl (cI, 1562, .inl t_now)), (a_t_text, .inl (cB, 200, .inl t_text))] := hD
  refine lv_aload_n hx hb dX11_read_20 rfl (lv_at hl 0 rfl) ?_
  refine lv_iconst (v := (nI 0)) hx hb dX11_read_21 rfl ?_
  refine va_put (D := D) (ci := 11) (ty := .boolean) (C := RX11) (T := TX11) (N := 16) hx hb hts qX11_read_X11 tyX11 tyX11_ok nmX11 hown hK hP hD hS 0 rfl rfl 11 (by decide) (hts _ kX11_read_5) (fun _ h9 => h9) rfl (by decide +kernel) rfl (by first | rfl | exact zz_fit) (Nat.le_of_ble_eq_true rfl) dX11_read_22 (fun H locs hP hD hS => ?_)
  have hP : va_P D vwCl [(a_t, .inr (11, [.int t_thrown, .ref a_t_now, .ref a_t_kept, .int t_isKept, .ref a_t_text, .int t_length, .ref a_t_passing, .int (nI 0), .int (-1 : Int32), .int (nI 0), .int x1, .int (nI 0), .int t_prizeMost, .ref a_t_order, .ref a_t_times, .int t_listed])), (a_t_now, .inl (cI, 1562, .inl t_now)), (a_t_text, .inl (cB, 200, .inl t_text))] H := hP
  have hD : va_D A [(a_t, .inr (11, [.int t_thrown, .ref a_t_now, .ref a_t_kept, .int t_isKept, .ref a_t_text, .int t_length, .ref a_t_passing, .int (nI 0), .int (-1 : Int32), .int (nI 0), .int x1, .int (nI 0), .int t_prizeMost, .ref a_t_order, .ref a_t_times, .int t_listed])), (a_t_now, .inl (cI, 1562, .inl t_now)), (a_t_text, .inl (cB, 200, .inl t_text))] := hD
  refine lv_aload_n hx hb dX11_read_25 rfl (lv_at hl 0 rfl) ?_
  refine lv_iconst (v := (nI 0)) hx hb dX11_read_26 rfl ?_
  refine va_put (D := D) (ci := 11) (ty := .int) (C := RX11) (T := TX11) (N := 16) hx hb hts qX11_read_X11 tyX11 tyX11_ok nmX11 hown hK hP hD hS 0 rfl rfl 12 (by decide) (hts _ kX11_read_6) (fun _ h9 => h9) rfl (by decide +kernel) rfl (by first | rfl | exact zz_fit) (Nat.le_of_ble_eq_true rfl) dX11_read_27 (fun H locs hP hD hS => ?_)
  have hP : va_P D vwCl [(a_t, .inr (11, [.int t_thrown, .ref a_t_now, .ref a_t_kept, .int t_isKept, .ref a_t_text, .int t_length, .ref a_t_passing, .int (nI 0), .int (-1 : Int32), .int (nI 0), .int x1, .int (nI 0), .int (nI 0), .ref a_t_order, .ref a_t_times, .int t_listed])), (a_t_now, .inl (cI, 1562, .inl t_now)), (a_t_text, .inl (cB, 200, .inl t_text))] H := hP
  have hD : va_D A [(a_t, .inr (11, [.int t_thrown, .ref a_t_now, .ref a_t_kept, .int t_isKept, .ref a_t_text, .int t_length, .ref a_t_passing, .int (nI 0), .int (-1 : Int32), .int (nI 0), .int x1, .int (nI 0), .int (nI 0), .ref a_t_order, .ref a_t_times, .int t_listed])), (a_t_now, .inl (cI, 1562, .inl t_now)), (a_t_text, .inl (cB, 200, .inl t_text))] := hD
  refine lv_aload_n hx hb dX11_read_30 rfl (lv_at hl 0 rfl) ?_
  obtain ⟨⟨b1, t_at_r2, t_fault_r3, t_open_r4⟩, e5, h⟩ := zz_b h
  dsimp only at h
  refine zVi (As := []) (rest := []) (C := RX11) (wr := []) [0, 1, 2] [] 0 ⟨hx, hb, hml, hown, hts⟩ (mX11_tests_8 l D cB cI cZ a_t a_t_now a_t_kept a_t_text a_t_passing a_t_order a_t_times t_thrown t_isKept t_length (nI 0) (-1 : Int32) (nI 0) x1 (nI 0) (nI 0) t_listed t_now t_text H.size N b1 t_at_r2 t_fault_r3 t_open_r4 e5) (cwV 0 hts gX11_read_X11_tests rfl rfl rfl (by decide +kernel) ⟨Nat.le_of_ble_eq_true rfl, Nat.le_of_ble_eq_true rfl⟩) hK hN hZ hP hD hS hA rfl rfl rfl rfl rfl rfl rfl rfl hl.1 rfl (lv_room (Nat.le_of_ble_eq_true rfl)) dX11_read_31 ⟨Nat.le_of_ble_eq_true rfl, Nat.le_of_ble_eq_true rfl⟩ (fun H locs hP hD hS => ?_)
  have hP : va_P D vwCl [(a_t, .inr (11, [.int t_thrown, .ref a_t_now, .ref a_t_kept, .int t_isKept, .ref a_t_text, .int t_length, .ref a_t_passing, .int t_at_r2, .int t_fault_r3, .int t_open_r4, .int x1, .int (nI 0), .int (nI 0), .ref a_t_order, .ref a_t_times, .int t_listed])), (a_t_now, .inl (cI, 1562, .inl t_now)), (a_t_text, .inl (cB, 200, .inl t_text))] H := hP
  have hD : va_D A [(a_t, .inr (11, [.int t_thrown, .ref a_t_now, .ref a_t_kept, .int t_isKept, .ref a_t_text, .int t_length, .ref a_t_passing, .int t_at_r2, .int t_fault_r3, .int t_open_r4, .int x1, .int (nI 0), .int (nI 0), .ref a_t_order, .ref a_t_times, .int t_listed])), (a_t_now, .inl (cI, 1562, .inl t_now)), (a_t_text, .inl (cB, 200, .inl t_text))] := hD
  refine lv_istore_n (lv' := [(2, .int (zb b1)), (0, .ref a_t), (1, .int x1)]) hx hb dX11_read_34 rfl hl (by decide) rfl (fun ls hl => ?_)
  refine lv_aload_n hx hb dX11_read_35 rfl (lv_at hl 1 rfl) ?_
  refine lv_bipush (v := (nI 59)) hx hb dX11_read_36 rfl ?_
  obtain ⟨⟨t_at_r6, t_fault_r7⟩, e8, h⟩ := zz_b h
  dsimp only at h
  refine zVv (As := [.int (nI 59)]) (rest := []) (C := RX11) (wr := [(a_t_now, .inl (cI, 1562, .inl t_now))]) [0, 2] [1] 0 ⟨hx, hb, hml, hown, hts⟩ (mX11_sign l D cB cI cZ a_t a_t_now a_t_kept a_t_text a_t_passing a_t_order a_t_times t_thrown t_isKept t_length t_at_r2 t_fault_r3 t_open_r4 x1 (nI 0) (nI 0) t_listed t_text H.size (nI 59) N t_at_r6 t_fault_r7 e8) (cwV 1 hts gX11_read_X11_sign rfl rfl rfl (by decide +kernel) ⟨Nat.le_of_ble_eq_true rfl, Nat.le_of_ble_eq_true rfl⟩) hK hN hZ hP hD hS hA rfl rfl rfl rfl rfl rfl rfl rfl hl.1 rfl (lv_room (Nat.le_of_ble_eq_true rfl)) dX11_read_38 ⟨Nat.le_of_ble_eq_true rfl, Nat.le_of_ble_eq_true rfl⟩ (fun H locs hP hD hS => ?_)
  have hP : va_P D vwCl [(a_t_now, .inl (cI, 1562, .inl t_now)), (a_t, .inr (11, [.int t_thrown, .ref a_t_now, .ref a_t_kept, .int t_isKept, .ref a_t_text, .int t_length, .ref a_t_passing, .int t_at_r6, .int t_fault_r7, .int t_open_r4, .int x1, .int (nI 0), .int (nI 0), .ref a_t_order, .ref a_t_times, .int t_listed])), (a_t_text, .inl (cB, 200, .inl t_text))] H := hP
  have hD : va_D A [(a_t_now, .inl (cI, 1562, .inl t_now)), (a_t, .inr (11, [.int t_thrown, .ref a_t_now, .ref a_t_kept, .int t_isKept, .ref a_t_text, .int t_length, .ref a_t_passing, .int t_at_r6, .int t_fault_r7, .int t_open_r4, .int x1, .int (nI 0), .int (nI 0), .ref a_t_order, .ref a_t_times, .int t_listed])), (a_t_text, .inl (cB, 200, .inl t_text))] := hD
  refine lv_aload_n hx hb dX11_read_41 rfl (lv_at hl 1 rfl) ?_
  obtain ⟨b9, e10, h⟩ := zz_b h
  refine zVi (As := []) (rest := []) (C := RX11) (wr := [(a_t_now, .inl (cI, 1562, .inl t_now)), (a_t_text, .inl (cB, 200, .inl t_text))]) [1] [0, 2] 0 ⟨hx, hb, hml, hown, hts⟩ (mX11_isFine l D cB cI cZ a_t a_t_now a_t_kept a_t_text a_t_passing a_t_order a_t_times t_thrown t_isKept t_length t_at_r6 t_fault_r7 t_open_r4 x1 (nI 0) (nI 0) t_listed H.size b9 e10) (cwV 0 hts gX11_read_X11_isFine rfl rfl rfl (by decide +kernel) ⟨Nat.le_of_ble_eq_true rfl, Nat.le_of_ble_eq_true rfl⟩) hK hN hZ hP hD hS hA rfl rfl rfl rfl rfl rfl rfl rfl hl.1 rfl (lv_room (Nat.le_of_ble_eq_true rfl)) dX11_read_42 ⟨Nat.le_of_ble_eq_true rfl, Nat.le_of_ble_eq_true rfl⟩ (fun H locs hP hD hS => ?_)
  have hP : va_P D vwCl [(a_t_now, .inl (cI, 1562, .inl t_now)), (a_t_text, .inl (cB, 200, .inl t_text)), (a_t, .inr (11, [.int t_thrown, .ref a_t_now, .ref a_t_kept, .int t_isKept, .ref a_t_text, .int t_length, .ref a_t_passing, .int t_at_r6, .int t_fault_r7, .int t_open_r4, .int x1, .int (nI 0), .int (nI 0), .ref a_t_order, .ref a_t_times, .int t_listed]))] H := hP
  have hD : va_D A [(a_t_now, .inl (cI, 1562, .inl t_now)), (a_t_text, .inl (cB, 200, .inl t_text)), (a_t, .inr (11, [.int t_thrown, .ref a_t_now, .ref a_t_kept, .int t_isKept, .ref a_t_text, .int t_length, .ref a_t_passing, .int t_at_r6, .int t_fault_r7, .int t_open_r4, .int x1, .int (nI 0), .int (nI 0), .ref a_t_order, .ref a_t_times, .int t_listed]))] := hD
  refine lv_if_ne (tgt := 50) hx hb dX11_read_45 (by decide) (fun c11 => ?_) (fun c11 => ?_)
  · have h := zz_f h c11
    refine lv_aload_n hx hb dX11_read_50 rfl (lv_at hl 1 rfl) ?_
    obtain ⟨⟨r12, t_at_r13⟩, e14, h⟩ := zz_b h
    dsimp only at h
    refine zVi (As := []) (rest := []) (C := RX11) (wr := [(a_t_now, .inl (cI, 1562, .inl t_now))]) [2, 1] [0] 0 ⟨hx, hb, hml, hown, hts⟩ (mX11_look l D cB cI cZ a_t a_t_now a_t_kept a_t_text a_t_passing a_t_order a_t_times t_thrown t_isKept t_length t_at_r6 t_fault_r7 t_open_r4 x1 (nI 0) (nI 0) t_listed t_text H.size N r12 t_at_r13 e14) (cwV 0 hts gX11_read_X11_look rfl rfl rfl (by decide +kernel) ⟨Nat.le_of_ble_eq_true rfl, Nat.le_of_ble_eq_true rfl⟩) hK hN hZ hP hD hS hA rfl rfl rfl rfl rfl rfl rfl rfl hl.1 rfl (lv_room (Nat.le_of_ble_eq_true rfl)) dX11_read_51 ⟨Nat.le_of_ble_eq_true rfl, Nat.le_of_ble_eq_true rfl⟩ (fun H locs hP hD hS => ?_)
    have hP : va_P D vwCl [(a_t_now, .inl (cI, 1562, .inl t_now)), (a_t, .inr (11, [.int t_thrown, .ref a_t_now, .ref a_t_kept, .int t_isKept, .ref a_t_text, .int t_length, .ref a_t_passing, .int t_at_r13, .int t_fault_r7, .int t_open_r4, .int x1, .int (nI 0), .int (nI 0), .ref a_t_order, .ref a_t_times, .int t_listed])), (a_t_text, .inl (cB, 200, .inl t_text))] H := hP
    have hD : va_D A [(a_t_now, .inl (cI, 1562, .inl t_now)), (a_t, .inr (11, [.int t_thrown, .ref a_t_now, .ref a_t_kept, .int t_isKept, .ref a_t_text, .int t_length, .ref a_t_passing, .int t_at_r13, .int t_fault_r7, .int t_open_r4, .int x1, .int (nI 0), .int (nI 0), .ref a_t_order, .ref a_t_times, .int t_listed])), (a_t_text, .inl (cB, 200, .inl t_text))] := hD
    refine lv_istore_n (lv' := [(3, .int r12), (2, .int (zb b1)), (0, .ref a_t), (1, .int x1)]) hx hb dX11_read_54 rfl hl (by decide) rfl (fun ls hl => ?_)
    refine lv_iload_n hx hb dX11_read_55 rfl (lv_at hl 0 rfl) ?_
    refine lv_bipush (v := (nI 110)) hx hb dX11_read_56 rfl ?_
    have J73 : ∀ (t_byGun_j73 : Int32) (t_prizeMost_j73 : Int32) (H : Heap) (locs : List Loc) (ls : Array Slot), fX11_read_J73 N t_length t_text x1 b1 t_open_r4 t_fault_r7 r12 t_at_r13 t_byGun_j73 t_prizeMost_j73 = some (b0, t_asked', t_at', t_byGun', t_fault', t_open', t_prizeMost') → va_P D vwCl [(a_t_now, .inl (cI, 1562, .inl t_now)), (a_t, .inr (11, [.int t_thrown, .ref a_t_now, .ref a_t_kept, .int t_isKept, .ref a_t_text, .int t_length, .ref a_t_passing, .int t_at_r13, .int t_fault_r7, .int t_open_r4, .int x1, .int t_byGun_j73, .int t_prizeMost_j73, .ref a_t_order, .ref a_t_times, .int t_listed])), (a_t_text, .inl (cB, 200, .inl t_text))] H → va_D A [(a_t_now, .inl (cI, 1562, .inl t_now)), (a_t, .inr (11, [.int t_thrown, .ref a_t_now, .ref a_t_kept, .int t_isKept, .ref a_t_text, .int t_length, .ref a_t_passing, .int t_at_r13, .int t_fault_r7, .int t_open_r4, .int x1, .int t_byGun_j73, .int t_prizeMost_j73, .ref a_t_order, .ref a_t_times, .int t_listed])), (a_t_text, .inl (cB, 200, .inl t_text))] → va_S A s.heap H locs → lv_has ls 4 [(3, .int r12), (2, .int (zb b1)), (0, .ref a_t), (1, .int x1)] → W p l e (headSpec wsX11_read ({ frames := 29, cells := 0, slots := 0, locals := 663 } : Room)).room s m #[Value.ref a_t, Value.int x1] below meth c H locs 0 0 (MQ below (zQi (zb b0) D (zT cB cI cZ) [(a_t, .inr (11, [.int t_thrown, .ref a_t_now, .ref a_t_kept, .int t_isKept, .ref a_t_text, .int t_length, .ref a_t_passing, .int t_at', .int t_fault', .int t_open', .int t_asked', .int t_byGun', .int t_prizeMost', .ref a_t_order, .ref a_t_times, .int t_listed])), (a_t_now, .inl (cI, 1562, .inl t_now)), (a_t_text, .inl (cB, 200, .inl t_text))] A) #[Value.ref a_t, Value.int x1] s 0 0 A) (F0 m 73 ls []) := by
      intro t_byGun_j73 t_prizeMost_j73 H locs ls h hP hD hS hl
      unfold fX11_read_J73 at h
      refine lv_aload_n hx hb dX11_read_73 rfl (lv_at hl 2 rfl) ?_
      refine lv_iload_n hx hb dX11_read_74 rfl (lv_at hl 0 rfl) ?_
      refine lv_bipush (v := (nI 103)) hx hb dX11_read_75 rfl ?_
      have J85 : ∀ (s1_j85 : Bool) (H : Heap) (locs : List Loc) (ls : Array Slot), fX11_read_J85 N t_length t_text x1 b1 t_open_r4 t_fault_r7 t_at_r13 t_prizeMost_j73 s1_j85 = some (b0, t_asked', t_at', t_byGun', t_fault', t_open', t_prizeMost') → va_P D vwCl [(a_t_now, .inl (cI, 1562, .inl t_now)), (a_t, .inr (11, [.int t_thrown, .ref a_t_now, .ref a_t_kept, .int t_isKept, .ref a_t_text, .int t_length, .ref a_t_passing, .int t_at_r13, .int t_fault_r7, .int t_open_r4, .int x1, .int t_byGun_j73, .int t_prizeMost_j73, .ref a_t_order, .ref a_t_times, .int t_listed])), (a_t_text, .inl (cB, 200, .inl t_text))] H → va_D A [(a_t_now, .inl (cI, 1562, .inl t_now)), (a_t, .inr (11, [.int t_thrown, .ref a_t_now, .ref a_t_kept, .int t_isKept, .ref a_t_text, .int t_length, .ref a_t_passing, .int t_at_r13, .int t_fault_r7, .int t_open_r4, .int x1, .int t_byGun_j73, .int t_prizeMost_j73, .ref a_t_order, .ref a_t_times, .int t_listed])), (a_t_text, .inl (cB, 200, .inl t_text))] → va_S A s.heap H locs → lv_has ls 4 [(3, .int r12), (2, .int (zb b1)), (0, .ref a_t), (1, .int x1)] → W p l e (headSpec wsX11_read ({ frames := 29, cells := 0, slots := 0, locals := 663 } : Room)).room s m #[Value.ref a_t, Value.int x1] below meth c H locs 0 0 (MQ below (zQi (zb b0) D (zT cB cI cZ) [(a_t, .inr (11, [.int t_thrown, .ref a_t_now, .ref a_t_kept, .int t_isKept, .ref a_t_text, .int t_length, .ref a_t_passing, .int t_at', .int t_fault', .int t_open', .int t_asked', .int t_byGun', .int t_prizeMost', .ref a_t_order, .ref a_t_times, .int t_listed])), (a_t_now, .inl (cI, 1562, .inl t_now)), (a_t_text, .inl (cB, 200, .inl t_text))] A) #[Value.ref a_t, Value.int x1] s 0 0 A) (F0 m 85 ls [.int (zb s1_j85), .ref a_t]) := by
        intro s1_j85 H locs ls h hP hD hS hl
        unfold fX11_read_J85 at h
        refine va_put (D := D) (ci := 11) (ty := .boolean) (C := RX11) (T := TX11) (N := 16) hx hb hts qX11_read_X11 tyX11 tyX11_ok nmX11 hown hK hP hD hS 1 rfl rfl 11 (by decide) (hts _ kX11_read_5) (fun _ h9 => h9) rfl (by decide +kernel) zz_n (by first | rfl | exact zz_fit) (Nat.le_of_ble_eq_true rfl) dX11_read_85 (fun H locs hP hD hS => ?_)
        have hP : va_P D vwCl [(a_t_now, .inl (cI, 1562, .inl t_now)), (a_t, .inr (11, [.int t_thrown, .ref a_t_now, .ref a_t_kept, .int t_isKept, .ref a_t_text, .int t_length, .ref a_t_passing, .int t_at_r13, .int t_fault_r7, .int t_open_r4, .int x1, .int (zb s1_j85), .int t_prizeMost_j73, .ref a_t_order, .ref a_t_times, .int t_listed])), (a_t_text, .inl (cB, 200, .inl t_text))] H := hP
        have hD : va_D A [(a_t_now, .inl (cI, 1562, .inl t_now)), (a_t, .inr (11, [.int t_thrown, .ref a_t_now, .ref a_t_kept, .int t_isKept, .ref a_t_text, .int t_length, .ref a_t_passing, .int t_at_r13, .int t_fault_r7, .int t_open_r4, .int x1, .int (zb s1_j85), .int t_prizeMost_j73, .ref a_t_order, .ref a_t_times, .int t_listed])), (a_t_text, .inl (cB, 200, .inl t_text))] := hD
        refine lv_aload_n hx hb dX11_read_88 rfl (lv_at hl 2 rfl) ?_
        refine lv_dup hx hb dX11_read_89 rfl ?_
        refine va_get (D := D) (ci := 11) (C := RX11) (T := TX11) (N := 16) hx hb hts qX11_read_X11 hown hK hP 1 rfl rfl 7 (by decide) (hts _ kX11_read_0) (fun _ h9 => h9) rfl dX11_read_90 ?_
        refine lv_iconst (v := (nI 1)) hx hb dX11_read_93 rfl ?_
        refine lv_iadd hx hb dX11_read_94 ?_
        refine va_put (D := D) (ci := 11) (ty := .int) (C := RX11) (T := TX11) (N := 16) hx hb hts qX11_read_X11 tyX11 tyX11_ok nmX11 hown hK hP hD hS 1 rfl rfl 7 (by decide) (hts _ kX11_read_0) (fun _ h9 => h9) rfl (by decide +kernel) rfl (by first | rfl | exact zz_fit) (Nat.le_of_ble_eq_true rfl) dX11_read_95 (fun H locs hP hD hS => ?_)
        have hP : va_P D vwCl [(a_t_now, .inl (cI, 1562, .inl t_now)), (a_t, .inr (11, [.int t_thrown, .ref a_t_now, .ref a_t_kept, .int t_isKept, .ref a_t_text, .int t_length, .ref a_t_passing, .int (t_at_r13 + (nI 1)), .int t_fault_r7, .int t_open_r4, .int x1, .int (zb s1_j85), .int t_prizeMost_j73, .ref a_t_order, .ref a_t_times, .int t_listed])), (a_t_text, .inl (cB, 200, .inl t_text))] H := hP
        have hD : va_D A [(a_t_now, .inl (cI, 1562, .inl t_now)), (a_t, .inr (11, [.int t_thrown, .ref a_t_now, .ref a_t_kept, .int t_isKept, .ref a_t_text, .int t_length, .ref a_t_passing, .int (t_at_r13 + (nI 1)), .int t_fault_r7, .int t_open_r4, .int x1, .int (zb s1_j85), .int t_prizeMost_j73, .ref a_t_order, .ref a_t_times, .int t_listed])), (a_t_text, .inl (cB, 200, .inl t_text))] := hD
        refine lv_aload_n hx hb dX11_read_98 rfl (lv_at hl 2 rfl) ?_
        obtain ⟨⟨r15, t_at_r16⟩, e17, h⟩ := zz_b h
        dsimp only at h
        refine zVi (As := []) (rest := []) (C := RX11) (wr := [(a_t_now, .inl (cI, 1562, .inl t_now))]) [1, 2] [0] 0 ⟨hx, hb, hml, hown, hts⟩ (mX11_look l D cB cI cZ a_t a_t_now a_t_kept a_t_text a_t_passing a_t_order a_t_times t_thrown t_isKept t_length (t_at_r13 + (nI 1)) t_fault_r7 t_open_r4 x1 (zb s1_j85) t_prizeMost_j73 t_listed t_text H.size N r15 t_at_r16 e17) (cwV 0 hts gX11_read_X11_look rfl rfl rfl (by decide +kernel) ⟨Nat.le_of_ble_eq_true rfl, Nat.le_of_ble_eq_true rfl⟩) hK hN hZ hP hD hS hA rfl rfl rfl rfl rfl rfl rfl rfl hl.1 rfl (lv_room (Nat.le_of_ble_eq_true rfl)) dX11_read_99 ⟨Nat.le_of_ble_eq_true rfl, Nat.le_of_ble_eq_true rfl⟩ (fun H locs hP hD hS => ?_)
        have hP : va_P D vwCl [(a_t_now, .inl (cI, 1562, .inl t_now)), (a_t, .inr (11, [.int t_thrown, .ref a_t_now, .ref a_t_kept, .int t_isKept, .ref a_t_text, .int t_length, .ref a_t_passing, .int t_at_r16, .int t_fault_r7, .int t_open_r4, .int x1, .int (zb s1_j85), .int t_prizeMost_j73, .ref a_t_order, .ref a_t_times, .int t_listed])), (a_t_text, .inl (cB, 200, .inl t_text))] H := hP
        have hD : va_D A [(a_t_now, .inl (cI, 1562, .inl t_now)), (a_t, .inr (11, [.int t_thrown, .ref a_t_now, .ref a_t_kept, .int t_isKept, .ref a_t_text, .int t_length, .ref a_t_passing, .int t_at_r16, .int t_fault_r7, .int t_open_r4, .int x1, .int (zb s1_j85), .int t_prizeMost_j73, .ref a_t_order, .ref a_t_times, .int t_listed])), (a_t_text, .inl (cB, 200, .inl t_text))] := hD
        refine lv_bipush (v := (nI 59)) hx hb dX11_read_102 rfl ?_
        have J125 : ∀ (t_at_j125 : Int32) (t_fault_j125 : Int32) (t_prizeMost_j125 : Int32) (H : Heap) (locs : List Loc) (ls : Array Slot), fX11_read_J125 N t_length t_text x1 b1 t_open_r4 s1_j85 t_at_j125 t_fault_j125 t_prizeMost_j125 = some (b0, t_asked', t_at', t_byGun', t_fault', t_open', t_prizeMost') → va_P D vwCl [(a_t_now, .inl (cI, 1562, .inl t_now)), (a_t, .inr (11, [.int t_thrown, .ref a_t_now, .ref a_t_kept, .int t_isKept, .ref a_t_text, .int t_length, .ref a_t_passing, .int t_at_j125, .int t_fault_j125, .int t_open_r4, .int x1, .int (zb s1_j85), .int t_prizeMost_j125, .ref a_t_order, .ref a_t_times, .int t_listed])), (a_t_text, .inl (cB, 200, .inl t_text))] H → va_D A [(a_t_now, .inl (cI, 1562, .inl t_now)), (a_t, .inr (11, [.int t_thrown, .ref a_t_now, .ref a_t_kept, .int t_isKept, .ref a_t_text, .int t_length, .ref a_t_passing, .int t_at_j125, .int t_fault_j125, .int t_open_r4, .int x1, .int (zb s1_j85), .int t_prizeMost_j125, .ref a_t_order, .ref a_t_times, .int t_listed])), (a_t_text, .inl (cB, 200, .inl t_text))] → va_S A s.heap H locs → lv_has ls 4 [(3, .int r12), (2, .int (zb b1)), (0, .ref a_t), (1, .int x1)] → W p l e (headSpec wsX11_read ({ frames := 29, cells := 0, slots := 0, locals := 663 } : Room)).room s m #[Value.ref a_t, Value.int x1] below meth c H locs 0 0 (MQ below (zQi (zb b0) D (zT cB cI cZ) [(a_t, .inr (11, [.int t_thrown, .ref a_t_now, .ref a_t_kept, .int t_isKept, .ref a_t_text, .int t_length, .ref a_t_passing, .int t_at', .int t_fault', .int t_open', .int t_asked', .int t_byGun', .int t_prizeMost', .ref a_t_order, .ref a_t_times, .int t_listed])), (a_t_now, .inl (cI, 1562, .inl t_now)), (a_t_text, .inl (cB, 200, .inl t_text))] A) #[Value.ref a_t, Value.int x1] s 0 0 A) (F0 m 125 ls []) := by
          intro t_at_j125 t_fault_j125 t_prizeMost_j125 H locs ls h hP hD hS hl
          unfold fX11_read_J125 at h
          refine lv_aload_n hx hb dX11_read_125 rfl (lv_at hl 2 rfl) ?_
          obtain ⟨b18, e19, h⟩ := zz_b h
          refine zVi (As := []) (rest := []) (C := RX11) (wr := [(a_t_now, .inl (cI, 1562, .inl t_now)), (a_t_text, .inl (cB, 200, .inl t_text))]) [1] [0, 2] 0 ⟨hx, hb, hml, hown, hts⟩ (mX11_isFine l D cB cI cZ a_t a_t_now a_t_kept a_t_text a_t_passing a_t_order a_t_times t_thrown t_isKept t_length t_at_j125 t_fault_j125 t_open_r4 x1 (zb s1_j85) t_prizeMost_j125 t_listed H.size b18 e19) (cwV 0 hts gX11_read_X11_isFine rfl rfl rfl (by decide +kernel) ⟨Nat.le_of_ble_eq_true rfl, Nat.le_of_ble_eq_true rfl⟩) hK hN hZ hP hD hS hA rfl rfl rfl rfl rfl rfl rfl rfl hl.1 rfl (lv_room (Nat.le_of_ble_eq_true rfl)) dX11_read_126 ⟨Nat.le_of_ble_eq_true rfl, Nat.le_of_ble_eq_true rfl⟩ (fun H locs hP hD hS => ?_)
          have hP : va_P D vwCl [(a_t_now, .inl (cI, 1562, .inl t_now)), (a_t_text, .inl (cB, 200, .inl t_text)), (a_t, .inr (11, [.int t_thrown, .ref a_t_now, .ref a_t_kept, .int t_isKept, .ref a_t_text, .int t_length, .ref a_t_passing, .int t_at_j125, .int t_fault_j125, .int t_open_r4, .int x1, .int (zb s1_j85), .int t_prizeMost_j125, .ref a_t_order, .ref a_t_times, .int t_listed]))] H := hP
          have hD : va_D A [(a_t_now, .inl (cI, 1562, .inl t_now)), (a_t_text, .inl (cB, 200, .inl t_text)), (a_t, .inr (11, [.int t_thrown, .ref a_t_now, .ref a_t_kept, .int t_isKept, .ref a_t_text, .int t_length, .ref a_t_passing, .int t_at_j125, .int t_fault_j125, .int t_open_r4, .int x1, .int (zb s1_j85), .int t_prizeMost_j125, .ref a_t_order, .ref a_t_times, .int t_listed]))] := hD
          refine lv_if_eq (tgt := 144) hx hb dX11_read_129 (by decide) (fun c20 => ?_) (fun c20 => ?_)
          · have h := zz_t h c20
            refine lv_iload_n hx hb dX11_read_144 rfl (lv_at hl 1 rfl) ?_
            refine lv_if_eq (tgt := 159) hx hb dX11_read_145 (by decide) (fun c21 => ?_) (fun c21 => ?_)
            · have h := zz_t h c21
              refine lv_iconst (v := (nI 0)) hx hb dX11_read_159 rfl ?_
              obtain ⟨j0_, g_⟩ := Prod.mk.inj (Option.some.inj h)
              obtain ⟨j1_, g_⟩ := Prod.mk.inj g_
              obtain ⟨j2_, g_⟩ := Prod.mk.inj g_
              obtain ⟨j3_, g_⟩ := Prod.mk.inj g_
              obtain ⟨j4_, g_⟩ := Prod.mk.inj g_
              obtain ⟨j5_, g_⟩ := Prod.mk.inj g_
              have j6_ := g_
              subst j0_
              subst j1_
              subst j2_
              subst j3_
              subst j4_
              subst j5_
              subst j6_
              exact W.zret (v := (nI 0)) hx hb hr rfl (fun t ht hW => ⟨⟨_, (), rfl, rfl, zPost.of hP hD hK ht hW [2, 0, 1] rfl rfl rfl⟩, hS.F ht⟩) hS.2.2 dX11_read_160
            · have h := zz_f h c21
              refine lv_aload_n hx hb dX11_read_148 rfl (lv_at hl 2 rfl) ?_
              obtain ⟨b22, e23, h⟩ := zz_b h
              refine zVi (As := []) (rest := []) (C := RX11) (wr := [(a_t_now, .inl (cI, 1562, .inl t_now)), (a_t_text, .inl (cB, 200, .inl t_text))]) [2] [0, 1] 0 ⟨hx, hb, hml, hown, hts⟩ (mX11_isFine l D cB cI cZ a_t a_t_now a_t_kept a_t_text a_t_passing a_t_order a_t_times t_thrown t_isKept t_length t_at_j125 t_fault_j125 t_open_r4 x1 (zb s1_j85) t_prizeMost_j125 t_listed H.size b22 e23) (cwV 0 hts gX11_read_X11_isFine rfl rfl rfl (by decide +kernel) ⟨Nat.le_of_ble_eq_true rfl, Nat.le_of_ble_eq_true rfl⟩) hK hN hZ hP hD hS hA rfl rfl rfl rfl rfl rfl rfl rfl hl.1 rfl (lv_room (Nat.le_of_ble_eq_true rfl)) dX11_read_149 ⟨Nat.le_of_ble_eq_true rfl, Nat.le_of_ble_eq_true rfl⟩ (fun H locs hP hD hS => ?_)
              have hP : va_P D vwCl [(a_t_now, .inl (cI, 1562, .inl t_now)), (a_t_text, .inl (cB, 200, .inl t_text)), (a_t, .inr (11, [.int t_thrown, .ref a_t_now, .ref a_t_kept, .int t_isKept, .ref a_t_text, .int t_length, .ref a_t_passing, .int t_at_j125, .int t_fault_j125, .int t_open_r4, .int x1, .int (zb s1_j85), .int t_prizeMost_j125, .ref a_t_order, .ref a_t_times, .int t_listed]))] H := hP
              have hD : va_D A [(a_t_now, .inl (cI, 1562, .inl t_now)), (a_t_text, .inl (cB, 200, .inl t_text)), (a_t, .inr (11, [.int t_thrown, .ref a_t_now, .ref a_t_kept, .int t_isKept, .ref a_t_text, .int t_length, .ref a_t_passing, .int t_at_j125, .int t_fault_j125, .int t_open_r4, .int x1, .int (zb s1_j85), .int t_prizeMost_j125, .ref a_t_order, .ref a_t_times, .int t_listed]))] := hD
              refine lv_if_eq (tgt := 159) hx hb dX11_read_152 (by decide) (fun c24 => ?_) (fun c24 => ?_)
              · have h := zz_t h c24
                refine lv_iconst (v := (nI 0)) hx hb dX11_read_159 rfl ?_
                obtain ⟨j0_, g_⟩ := Prod.mk.inj (Option.some.inj h)
                obtain ⟨j1_, g_⟩ := Prod.mk.inj g_
                obtain ⟨j2_, g_⟩ := Prod.mk.inj g_
                obtain ⟨j3_, g_⟩ := Prod.mk.inj g_
                obtain ⟨j4_, g_⟩ := Prod.mk.inj g_
                obtain ⟨j5_, g_⟩ := Prod.mk.inj g_
                have j6_ := g_
                subst j0_
                subst j1_
                subst j2_
                subst j3_
                subst j4_
                subst j5_
                subst j6_
                exact W.zret (v := (nI 0)) hx hb hr rfl (fun t ht hW => ⟨⟨_, (), rfl, rfl, zPost.of hP hD hK ht hW [2, 0, 1] rfl rfl rfl⟩, hS.F ht⟩) hS.2.2 dX11_read_160
              · have h := zz_f h c24
                refine lv_iconst (v := (nI 1)) hx hb dX11_read_155 rfl ?_
                refine lv_goto (tgt := 160) hx hb dX11_read_156 (by decide) ?_
                obtain ⟨j0_, g_⟩ := Prod.mk.inj (Option.some.inj h)
                obtain ⟨j1_, g_⟩ := Prod.mk.inj g_
                obtain ⟨j2_, g_⟩ := Prod.mk.inj g_
                obtain ⟨j3_, g_⟩ := Prod.mk.inj g_
                obtain ⟨j4_, g_⟩ := Prod.mk.inj g_
                obtain ⟨j5_, g_⟩ := Prod.mk.inj g_
                have j6_ := g_
                subst j0_
                subst j1_
                subst j2_
                subst j3_
                subst j4_
                subst j5_
                subst j6_
                exact W.zret (v := (nI 1)) hx hb hr rfl (fun t ht hW => ⟨⟨_, (), rfl, rfl, zPost.of hP hD hK ht hW [2, 0, 1] rfl rfl rfl⟩, hS.F ht⟩) hS.2.2 dX11_read_160
          · have h := zz_f h c20
            refine lv_aload_n hx hb dX11_read_132 rfl (lv_at hl 2 rfl) ?_
            obtain ⟨⟨r25, t_at_r26⟩, e27, h⟩ := zz_b h
            dsimp only at h
            refine zVi (As := []) (rest := []) (C := RX11) (wr := [(a_t_now, .inl (cI, 1562, .inl t_now))]) [2, 1] [0] 0 ⟨hx, hb, hml, hown, hts⟩ (mX11_look l D cB cI cZ a_t a_t_now a_t_kept a_t_text a_t_passing a_t_order a_t_times t_thrown t_isKept t_length t_at_j125 t_fault_j125 t_open_r4 x1 (zb s1_j85) t_prizeMost_j125 t_listed t_text H.size N r25 t_at_r26 e27) (cwV 0 hts gX11_read_X11_look rfl rfl rfl (by decide +kernel) ⟨Nat.le_of_ble_eq_true rfl, Nat.le_of_ble_eq_true rfl⟩) hK hN hZ hP hD hS hA rfl rfl rfl rfl rfl rfl rfl rfl hl.1 rfl (lv_room (Nat.le_of_ble_eq_true rfl)) dX11_read_133 ⟨Nat.le_of_ble_eq_true rfl, Nat.le_of_ble_eq_true rfl⟩ (fun H locs hP hD hS => ?_)
            have hP : va_P D vwCl [(a_t_now, .inl (cI, 1562, .inl t_now)), (a_t, .inr (11, [.int t_thrown, .ref a_t_now, .ref a_t_kept, .int t_isKept, .ref a_t_text, .int t_length, .ref a_t_passing, .int t_at_r26, .int t_fault_j125, .int t_open_r4, .int x1, .int (zb s1_j85), .int t_prizeMost_j125, .ref a_t_order, .ref a_t_times, .int t_listed])), (a_t_text, .inl (cB, 200, .inl t_text))] H := hP
            have hD : va_D A [(a_t_now, .inl (cI, 1562, .inl t_now)), (a_t, .inr (11, [.int t_thrown, .ref a_t_now, .ref a_t_kept, .int t_isKept, .ref a_t_text, .int t_length, .ref a_t_passing, .int t_at_r26, .int t_fault_j125, .int t_open_r4, .int x1, .int (zb s1_j85), .int t_prizeMost_j125, .ref a_t_order, .ref a_t_times, .int t_listed])), (a_t_text, .inl (cB, 200, .inl t_text))] := hD
            refine lv_iconst (v := (-1 : Int32)) hx hb dX11_read_136 rfl ?_
            refine lv_icmp_eq (tgt := 144) hx hb dX11_read_137 (by decide) (fun c28 => ?_) (fun c28 => ?_)
            · have h := zz_t h c28
              refine lv_iload_n hx hb dX11_read_144 rfl (lv_at hl 1 rfl) ?_
              refine lv_if_eq (tgt := 159) hx hb dX11_read_145 (by decide) (fun c29 => ?_) (fun c29 => ?_)
              · have h := zz_t h c29
                refine lv_iconst (v := (nI 0)) hx hb dX11_read_159 rfl ?_
                obtain ⟨j0_, g_⟩ := Prod.mk.inj (Option.some.inj h)
                obtain ⟨j1_, g_⟩ := Prod.mk.inj g_
                obtain ⟨j2_, g_⟩ := Prod.mk.inj g_
                obtain ⟨j3_, g_⟩ := Prod.mk.inj g_
                obtain ⟨j4_, g_⟩ := Prod.mk.inj g_
                obtain ⟨j5_, g_⟩ := Prod.mk.inj g_
                have j6_ := g_
                subst j0_
                subst j1_
                subst j2_
                subst j3_
                subst j4_
                subst j5_
                subst j6_
                exact W.zret (v := (nI 0)) hx hb hr rfl (fun t ht hW => ⟨⟨_, (), rfl, rfl, zPost.of hP hD hK ht hW [1, 0, 2] rfl rfl rfl⟩, hS.F ht⟩) hS.2.2 dX11_read_160
              · have h := zz_f h c29
                refine lv_aload_n hx hb dX11_read_148 rfl (lv_at hl 2 rfl) ?_
                obtain ⟨b30, e31, h⟩ := zz_b h
                refine zVi (As := []) (rest := []) (C := RX11) (wr := [(a_t_now, .inl (cI, 1562, .inl t_now)), (a_t_text, .inl (cB, 200, .inl t_text))]) [1] [0, 2] 0 ⟨hx, hb, hml, hown, hts⟩ (mX11_isFine l D cB cI cZ a_t a_t_now a_t_kept a_t_text a_t_passing a_t_order a_t_times t_thrown t_isKept t_length t_at_r26 t_fault_j125 t_open_r4 x1 (zb s1_j85) t_prizeMost_j125 t_listed H.size b30 e31) (cwV 0 hts gX11_read_X11_isFine rfl rfl rfl (by decide +kernel) ⟨Nat.le_of_ble_eq_true rfl, Nat.le_of_ble_eq_true rfl⟩) hK hN hZ hP hD hS hA rfl rfl rfl rfl rfl rfl rfl rfl hl.1 rfl (lv_room (Nat.le_of_ble_eq_true rfl)) dX11_read_149 ⟨Nat.le_of_ble_eq_true rfl, Nat.le_of_ble_eq_true rfl⟩ (fun H locs hP hD hS => ?_)
                have hP : va_P D vwCl [(a_t_now, .inl (cI, 1562, .inl t_now)), (a_t_text, .inl (cB, 200, .inl t_text)), (a_t, .inr (11, [.int t_thrown, .ref a_t_now, .ref a_t_kept, .int t_isKept, .ref a_t_text, .int t_length, .ref a_t_passing, .int t_at_r26, .int t_fault_j125, .int t_open_r4, .int x1, .int (zb s1_j85), .int t_prizeMost_j125, .ref a_t_order, .ref a_t_times, .int t_listed]))] H := hP
                have hD : va_D A [(a_t_now, .inl (cI, 1562, .inl t_now)), (a_t_text, .inl (cB, 200, .inl t_text)), (a_t, .inr (11, [.int t_thrown, .ref a_t_now, .ref a_t_kept, .int t_isKept, .ref a_t_text, .int t_length, .ref a_t_passing, .int t_at_r26, .int t_fault_j125, .int t_open_r4, .int x1, .int (zb s1_j85), .int t_prizeMost_j125, .ref a_t_order, .ref a_t_times, .int t_listed]))] := hD
                refine lv_if_eq (tgt := 159) hx hb dX11_read_152 (by decide) (fun c32 => ?_) (fun c32 => ?_)
                · have h := zz_t h c32
                  refine lv_iconst (v := (nI 0)) hx hb dX11_read_159 rfl ?_
                  obtain ⟨j0_, g_⟩ := Prod.mk.inj (Option.some.inj h)
                  obtain ⟨j1_, g_⟩ := Prod.mk.inj g_
                  obtain ⟨j2_, g_⟩ := Prod.mk.inj g_
                  obtain ⟨j3_, g_⟩ := Prod.mk.inj g_
                  obtain ⟨j4_, g_⟩ := Prod.mk.inj g_
                  obtain ⟨j5_, g_⟩ := Prod.mk.inj g_
                  have j6_ := g_
                  subst j0_
                  subst j1_
                  subst j2_
                  subst j3_
                  subst j4_
                  subst j5_
                  subst j6_
                  exact W.zret (v := (nI 0)) hx hb hr rfl (fun t ht hW => ⟨⟨_, (), rfl, rfl, zPost.of hP hD hK ht hW [2, 0, 1] rfl rfl rfl⟩, hS.F ht⟩) hS.2.2 dX11_read_160
                · have h := zz_f h c32
                  refine lv_iconst (v := (nI 1)) hx hb dX11_read_155 rfl ?_
                  refine lv_goto (tgt := 160) hx hb dX11_read_156 (by decide) ?_
                  obtain ⟨j0_, g_⟩ := Prod.mk.inj (Option.some.inj h)
                  obtain ⟨j1_, g_⟩ := Prod.mk.inj g_
                  obtain ⟨j2_, g_⟩ := Prod.mk.inj g_
                  obtain ⟨j3_, g_⟩ := Prod.mk.inj g_
                  obtain ⟨j4_, g_⟩ := Prod.mk.inj g_
                  obtain ⟨j5_, g_⟩ := Prod.mk.inj g_
                  have j6_ := g_
                  subst j0_
                  subst j1_
                  subst j2_
                  subst j3_
                  subst j4_
                  subst j5_
                  subst j6_
                  exact W.zret (v := (nI 1)) hx hb hr rfl (fun t ht hW => ⟨⟨_, (), rfl, rfl, zPost.of hP hD hK ht hW [2, 0, 1] rfl rfl rfl⟩, hS.F ht⟩) hS.2.2 dX11_read_160
            · have h := zz_f h c28
              refine lv_aload_n hx hb dX11_read_140 rfl (lv_at hl 2 rfl) ?_
              obtain ⟨t_fault_r33, e34, h⟩ := zz_b h
              refine zVv (As := []) (rest := []) (C := RX11) (wr := [(a_t_now, .inl (cI, 1562, .inl t_now)), (a_t_text, .inl (cB, 200, .inl t_text))]) [1] [0, 2] 0 ⟨hx, hb, hml, hown, hts⟩ (mX11_wrong l D cB cI cZ a_t a_t_now a_t_kept a_t_text a_t_passing a_t_order a_t_times t_thrown t_isKept t_length t_at_r26 t_fault_j125 t_open_r4 x1 (zb s1_j85) t_prizeMost_j125 t_listed H.size t_fault_r33 e34) (cwV 0 hts gX11_read_X11_wrong rfl rfl rfl (by decide +kernel) ⟨Nat.le_of_ble_eq_true rfl, Nat.le_of_ble_eq_true rfl⟩) hK hN hZ hP hD hS hA rfl rfl rfl rfl rfl rfl rfl rfl hl.1 rfl (lv_room (Nat.le_of_ble_eq_true rfl)) dX11_read_141 ⟨Nat.le_of_ble_eq_true rfl, Nat.le_of_ble_eq_true rfl⟩ (fun H locs hP hD hS => ?_)
              have hP : va_P D vwCl [(a_t_now, .inl (cI, 1562, .inl t_now)), (a_t_text, .inl (cB, 200, .inl t_text)), (a_t, .inr (11, [.int t_thrown, .ref a_t_now, .ref a_t_kept, .int t_isKept, .ref a_t_text, .int t_length, .ref a_t_passing, .int t_at_r26, .int t_fault_r33, .int t_open_r4, .int x1, .int (zb s1_j85), .int t_prizeMost_j125, .ref a_t_order, .ref a_t_times, .int t_listed]))] H := hP
              have hD : va_D A [(a_t_now, .inl (cI, 1562, .inl t_now)), (a_t_text, .inl (cB, 200, .inl t_text)), (a_t, .inr (11, [.int t_thrown, .ref a_t_now, .ref a_t_kept, .int t_isKept, .ref a_t_text, .int t_length, .ref a_t_passing, .int t_at_r26, .int t_fault_r33, .int t_open_r4, .int x1, .int (zb s1_j85), .int t_prizeMost_j125, .ref a_t_order, .ref a_t_times, .int t_listed]))] := hD
              refine lv_iload_n hx hb dX11_read_144 rfl (lv_at hl 1 rfl) ?_
              refine lv_if_eq (tgt := 159) hx hb dX11_read_145 (by decide) (fun c35 => ?_) (fun c35 => ?_)
              · have h := zz_t h c35
                refine lv_iconst (v := (nI 0)) hx hb dX11_read_159 rfl ?_
                obtain ⟨j0_, g_⟩ := Prod.mk.inj (Option.some.inj h)
                obtain ⟨j1_, g_⟩ := Prod.mk.inj g_
                obtain ⟨j2_, g_⟩ := Prod.mk.inj g_
                obtain ⟨j3_, g_⟩ := Prod.mk.inj g_
                obtain ⟨j4_, g_⟩ := Prod.mk.inj g_
                obtain ⟨j5_, g_⟩ := Prod.mk.inj g_
                have j6_ := g_
                subst j0_
                subst j1_
                subst j2_
                subst j3_
                subst j4_
                subst j5_
                subst j6_
                exact W.zret (v := (nI 0)) hx hb hr rfl (fun t ht hW => ⟨⟨_, (), rfl, rfl, zPost.of hP hD hK ht hW [2, 0, 1] rfl rfl rfl⟩, hS.F ht⟩) hS.2.2 dX11_read_160
              · have h := zz_f h c35
                refine lv_aload_n hx hb dX11_read_148 rfl (lv_at hl 2 rfl) ?_
                obtain ⟨b36, e37, h⟩ := zz_b h
                refine zVi (As := []) (rest := []) (C := RX11) (wr := [(a_t_now, .inl (cI, 1562, .inl t_now)), (a_t_text, .inl (cB, 200, .inl t_text))]) [2] [0, 1] 0 ⟨hx, hb, hml, hown, hts⟩ (mX11_isFine l D cB cI cZ a_t a_t_now a_t_kept a_t_text a_t_passing a_t_order a_t_times t_thrown t_isKept t_length t_at_r26 t_fault_r33 t_open_r4 x1 (zb s1_j85) t_prizeMost_j125 t_listed H.size b36 e37) (cwV 0 hts gX11_read_X11_isFine rfl rfl rfl (by decide +kernel) ⟨Nat.le_of_ble_eq_true rfl, Nat.le_of_ble_eq_true rfl⟩) hK hN hZ hP hD hS hA rfl rfl rfl rfl rfl rfl rfl rfl hl.1 rfl (lv_room (Nat.le_of_ble_eq_true rfl)) dX11_read_149 ⟨Nat.le_of_ble_eq_true rfl, Nat.le_of_ble_eq_true rfl⟩ (fun H locs hP hD hS => ?_)
                have hP : va_P D vwCl [(a_t_now, .inl (cI, 1562, .inl t_now)), (a_t_text, .inl (cB, 200, .inl t_text)), (a_t, .inr (11, [.int t_thrown, .ref a_t_now, .ref a_t_kept, .int t_isKept, .ref a_t_text, .int t_length, .ref a_t_passing, .int t_at_r26, .int t_fault_r33, .int t_open_r4, .int x1, .int (zb s1_j85), .int t_prizeMost_j125, .ref a_t_order, .ref a_t_times, .int t_listed]))] H := hP
                have hD : va_D A [(a_t_now, .inl (cI, 1562, .inl t_now)), (a_t_text, .inl (cB, 200, .inl t_text)), (a_t, .inr (11, [.int t_thrown, .ref a_t_now, .ref a_t_kept, .int t_isKept, .ref a_t_text, .int t_length, .ref a_t_passing, .int t_at_r26, .int t_fault_r33, .int t_open_r4, .int x1, .int (zb s1_j85), .int t_prizeMost_j125, .ref a_t_order, .ref a_t_times, .int t_listed]))] := hD
                refine lv_if_eq (tgt := 159) hx hb dX11_read_152 (by decide) (fun c38 => ?_) (fun c38 => ?_)
                · have h := zz_t h c38
                  refine lv_iconst (v := (nI 0)) hx hb dX11_read_159 rfl ?_
                  obtain ⟨j0_, g_⟩ := Prod.mk.inj (Option.some.inj h)
                  obtain ⟨j1_, g_⟩ := Prod.mk.inj g_
                  obtain ⟨j2_, g_⟩ := Prod.mk.inj g_
                  obtain ⟨j3_, g_⟩ := Prod.mk.inj g_
                  obtain ⟨j4_, g_⟩ := Prod.mk.inj g_
                  obtain ⟨j5_, g_⟩ := Prod.mk.inj g_
                  have j6_ := g_
                  subst j0_
                  subst j1_
                  subst j2_
                  subst j3_
                  subst j4_
                  subst j5_
                  subst j6_
                  exact W.zret (v := (nI 0)) hx hb hr rfl (fun t ht hW => ⟨⟨_, (), rfl, rfl, zPost.of hP hD hK ht hW [2, 0, 1] rfl rfl rfl⟩, hS.F ht⟩) hS.2.2 dX11_read_160
                · have h := zz_f h c38
                  refine lv_iconst (v := (nI 1)) hx hb dX11_read_155 rfl ?_
                  refine lv_goto (tgt := 160) hx hb dX11_read_156 (by decide) ?_
                  obtain ⟨j0_, g_⟩ := Prod.mk.inj (Option.some.inj h)
                  obtain ⟨j1_, g_⟩ := Prod.mk.inj g_
                  obtain ⟨j2_, g_⟩ := Prod.mk.inj g_
                  obtain ⟨j3_, g_⟩ := Prod.mk.inj g_
                  obtain ⟨j4_, g_⟩ := Prod.mk.inj g_
                  obtain ⟨j5_, g_⟩ := Prod.mk.inj g_
                  have j6_ := g_
                  subst j0_
                  subst j1_
                  subst j2_
                  subst j3_
                  subst j4_
                  subst j5_
                  subst j6_
                  exact W.zret (v := (nI 1)) hx hb hr rfl (fun t ht hW => ⟨⟨_, (), rfl, rfl, zPost.of hP hD hK ht hW [2, 0, 1] rfl rfl rfl⟩, hS.F ht⟩) hS.2.2 dX11_read_160
        refine lv_icmp_ne (tgt := 125) hx hb dX11_read_104 (by decide) (fun c39 => ?_) (fun c39 => ?_)
        · have h := zz_f h c39
          exact J125 t_at_r16 t_fault_r7 t_prizeMost_j73 _ _ _ h (hP.sub [0, 1, 2] rfl) (hD.sub [0, 1, 2] rfl rfl) hS (lv_sub hl [0, 1, 2, 3] rfl)
        · have h := zz_t h c39
          refine lv_aload_n hx hb dX11_read_107 rfl (lv_at hl 2 rfl) ?_
          refine lv_dup hx hb dX11_read_108 rfl ?_
          refine va_get (D := D) (ci := 11) (C := RX11) (T := TX11) (N := 16) hx hb hts qX11_read_X11 hown hK hP 1 rfl rfl 7 (by decide) (hts _ kX11_read_0) (fun _ h9 => h9) rfl dX11_read_109 ?_
          refine lv_iconst (v := (nI 1)) hx hb dX11_read_112 rfl ?_
          refine lv_iadd hx hb dX11_read_113 ?_
          refine va_put (D := D) (ci := 11) (ty := .int) (C := RX11) (T := TX11) (N := 16) hx hb hts qX11_read_X11 tyX11 tyX11_ok nmX11 hown hK hP hD hS 1 rfl rfl 7 (by decide) (hts _ kX11_read_0) (fun _ h9 => h9) rfl (by decide +kernel) rfl (by first | rfl | exact zz_fit) (Nat.le_of_ble_eq_true rfl) dX11_read_114 (fun H locs hP hD hS => ?_)
          have hP : va_P D vwCl [(a_t_now, .inl (cI, 1562, .inl t_now)), (a_t, .inr (11, [.int t_thrown, .ref a_t_now, .ref a_t_kept, .int t_isKept, .ref a_t_text, .int t_length, .ref a_t_passing, .int (t_at_r16 + (nI 1)), .int t_fault_r7, .int t_open_r4, .int x1, .int (zb s1_j85), .int t_prizeMost_j73, .ref a_t_order, .ref a_t_times, .int t_listed])), (a_t_text, .inl (cB, 200, .inl t_text))] H := hP
          have hD : va_D A [(a_t_now, .inl (cI, 1562, .inl t_now)), (a_t, .inr (11, [.int t_thrown, .ref a_t_now, .ref a_t_kept, .int t_isKept, .ref a_t_text, .int t_length, .ref a_t_passing, .int (t_at_r16 + (nI 1)), .int t_fault_r7, .int t_open_r4, .int x1, .int (zb s1_j85), .int t_prizeMost_j73, .ref a_t_order, .ref a_t_times, .int t_listed])), (a_t_text, .inl (cB, 200, .inl t_text))] := hD
          refine lv_aload_n hx hb dX11_read_117 rfl (lv_at hl 2 rfl) ?_
          refine lv_aload_n hx hb dX11_read_118 rfl (lv_at hl 2 rfl) ?_
          obtain ⟨⟨r40, t_at_r41, t_fault_r42⟩, e43, h⟩ := zz_b h
          dsimp only at h
          refine zVi (As := []) (rest := [.ref a_t]) (C := RX11) (wr := [(a_t_now, .inl (cI, 1562, .inl t_now))]) [1, 2] [0] 0 ⟨hx, hb, hml, hown, hts⟩ (mX11_number l D cB cI cZ a_t a_t_now a_t_kept a_t_text a_t_passing a_t_order a_t_times t_thrown t_isKept t_length (t_at_r16 + (nI 1)) t_fault_r7 t_open_r4 x1 (zb s1_j85) t_prizeMost_j73 t_listed t_text H.size N r40 t_at_r41 t_fault_r42 e43) (cwV 0 hts gX11_read_X11_number rfl rfl rfl (by decide +kernel) ⟨Nat.le_of_ble_eq_true rfl, Nat.le_of_ble_eq_true rfl⟩) hK hN hZ hP hD hS hA rfl rfl rfl rfl rfl rfl rfl rfl hl.1 rfl (lv_room (Nat.le_of_ble_eq_true rfl)) dX11_read_119 ⟨Nat.le_of_ble_eq_true rfl, Nat.le_of_ble_eq_true rfl⟩ (fun H locs hP hD hS => ?_)
          have hP : va_P D vwCl [(a_t_now, .inl (cI, 1562, .inl t_now)), (a_t, .inr (11, [.int t_thrown, .ref a_t_now, .ref a_t_kept, .int t_isKept, .ref a_t_text, .int t_length, .ref a_t_passing, .int t_at_r41, .int t_fault_r42, .int t_open_r4, .int x1, .int (zb s1_j85), .int t_prizeMost_j73, .ref a_t_order, .ref a_t_times, .int t_listed])), (a_t_text, .inl (cB, 200, .inl t_text))] H := hP
          have hD : va_D A [(a_t_now, .inl (cI, 1562, .inl t_now)), (a_t, .inr (11, [.int t_thrown, .ref a_t_now, .ref a_t_kept, .int t_isKept, .ref a_t_text, .int t_length, .ref a_t_passing, .int t_at_r41, .int t_fault_r42, .int t_open_r4, .int x1, .int (zb s1_j85), .int t_prizeMost_j73, .ref a_t_order, .ref a_t_times, .int t_listed])), (a_t_text, .inl (cB, 200, .inl t_text))] := hD
          refine va_put (D := D) (ci := 11) (ty := .int) (C := RX11) (T := TX11) (N := 16) hx hb hts qX11_read_X11 tyX11 tyX11_ok nmX11 hown hK hP hD hS 1 rfl rfl 12 (by decide) (hts _ kX11_read_6) (fun _ h9 => h9) rfl (by decide +kernel) rfl (by first | rfl | exact zz_fit) (Nat.le_of_ble_eq_true rfl) dX11_read_122 (fun H locs hP hD hS => ?_)
          have hP : va_P D vwCl [(a_t_now, .inl (cI, 1562, .inl t_now)), (a_t, .inr (11, [.int t_thrown, .ref a_t_now, .ref a_t_kept, .int t_isKept, .ref a_t_text, .int t_length, .ref a_t_passing, .int t_at_r41, .int t_fault_r42, .int t_open_r4, .int x1, .int (zb s1_j85), .int r40, .ref a_t_order, .ref a_t_times, .int t_listed])), (a_t_text, .inl (cB, 200, .inl t_text))] H := hP
          have hD : va_D A [(a_t_now, .inl (cI, 1562, .inl t_now)), (a_t, .inr (11, [.int t_thrown, .ref a_t_now, .ref a_t_kept, .int t_isKept, .ref a_t_text, .int t_length, .ref a_t_passing, .int t_at_r41, .int t_fault_r42, .int t_open_r4, .int x1, .int (zb s1_j85), .int r40, .ref a_t_order, .ref a_t_times, .int t_listed])), (a_t_text, .inl (cB, 200, .inl t_text))] := hD
          exact J125 t_at_r41 t_fault_r42 r40 _ _ _ h (hP.sub [0, 1, 2] rfl) (hD.sub [0, 1, 2] rfl rfl) hS (lv_sub hl [0, 1, 2, 3] rfl)
      refine lv_icmp_ne (tgt := 84) hx hb dX11_read_77 (by decide) (fun c44 => ?_) (fun c44 => ?_)
      · have h := zz_f h c44
        refine lv_iconst (v := (nI 0)) hx hb dX11_read_84 rfl ?_
        exact J85 false _ _ _ h (hP.sub [0, 1, 2] rfl) (hD.sub [0, 1, 2] rfl rfl) hS (lv_sub hl [0, 1, 2, 3] rfl)
      · have h := zz_t h c44
        refine lv_iconst (v := (nI 1)) hx hb dX11_read_80 rfl ?_
        refine lv_goto (tgt := 85) hx hb dX11_read_81 (by decide) ?_
        exact J85 true _ _ _ h (hP.sub [0, 1, 2] rfl) (hD.sub [0, 1, 2] rfl rfl) hS (lv_sub hl [0, 1, 2, 3] rfl)
    refine lv_icmp_eq (tgt := 73) hx hb dX11_read_58 (by decide) (fun c45 => ?_) (fun c45 => ?_)
    · have h := zz_t h c45
      exact J73 (nI 0) (nI 0) _ _ _ h (hP.sub [0, 1, 2] rfl) (hD.sub [0, 1, 2] rfl rfl) hS (lv_sub hl [0, 1, 2, 3] rfl)
    · have h := zz_f h c45
      refine lv_iload_n hx hb dX11_read_61 rfl (lv_at hl 0 rfl) ?_
      refine lv_bipush (v := (nI 103)) hx hb dX11_read_62 rfl ?_
      refine lv_icmp_eq (tgt := 73) hx hb dX11_read_64 (by decide) (fun c46 => ?_) (fun c46 => ?_)
      · have h := zz_t h c46
        exact J73 (nI 0) (nI 0) _ _ _ h (hP.sub [0, 1, 2] rfl) (hD.sub [0, 1, 2] rfl rfl) hS (lv_sub hl [0, 1, 2, 3] rfl)
      · have h := zz_f h c46
        refine lv_aload_n hx hb dX11_read_67 rfl (lv_at hl 2 rfl) ?_
        obtain ⟨t_fault_r47, e48, h⟩ := zz_b h
        refine zVv (As := []) (rest := []) (C := RX11) (wr := [(a_t_now, .inl (cI, 1562, .inl t_now)), (a_t_text, .inl (cB, 200, .inl t_text))]) [1] [0, 2] 0 ⟨hx, hb, hml, hown, hts⟩ (mX11_wrong l D cB cI cZ a_t a_t_now a_t_kept a_t_text a_t_passing a_t_order a_t_times t_thrown t_isKept t_length t_at_r13 t_fault_r7 t_open_r4 x1 (nI 0) (nI 0) t_listed H.size t_fault_r47 e48) (cwV 0 hts gX11_read_X11_wrong rfl rfl rfl (by decide +kernel) ⟨Nat.le_of_ble_eq_true rfl, Nat.le_of_ble_eq_true rfl⟩) hK hN hZ hP hD hS hA rfl rfl rfl rfl rfl rfl rfl rfl hl.1 rfl (lv_room (Nat.le_of_ble_eq_true rfl)) dX11_read_68 ⟨Nat.le_of_ble_eq_true rfl, Nat.le_of_ble_eq_true rfl⟩ (fun H locs hP hD hS => ?_)
        have hP : va_P D vwCl [(a_t_now, .inl (cI, 1562, .inl t_now)), (a_t_text, .inl (cB, 200, .inl t_text)), (a_t, .inr (11, [.int t_thrown, .ref a_t_now, .ref a_t_kept, .int t_isKept, .ref a_t_text, .int t_length, .ref a_t_passing, .int t_at_r13, .int t_fault_r47, .int t_open_r4, .int x1, .int (nI 0), .int (nI 0), .ref a_t_order, .ref a_t_times, .int t_listed]))] H := hP
        have hD : va_D A [(a_t_now, .inl (cI, 1562, .inl t_now)), (a_t_text, .inl (cB, 200, .inl t_text)), (a_t, .inr (11, [.int t_thrown, .ref a_t_now, .ref a_t_kept, .int t_isKept, .ref a_t_text, .int t_length, .ref a_t_passing, .int t_at_r13, .int t_fault_r47, .int t_open_r4, .int x1, .int (nI 0), .int (nI 0), .ref a_t_order, .ref a_t_times, .int t_listed]))] := hD
        refine lv_iconst (v := (nI 0)) hx hb dX11_read_71 rfl ?_
        obtain ⟨j0_, g_⟩ := Prod.mk.inj (Option.some.inj h)
        obtain ⟨j1_, g_⟩ := Prod.mk.inj g_
        obtain ⟨j2_, g_⟩ := Prod.mk.inj g_
        obtain ⟨j3_, g_⟩ := Prod.mk.inj g_
        obtain ⟨j4_, g_⟩ := Prod.mk.inj g_
        obtain ⟨j5_, g_⟩ := Prod.mk.inj g_
        have j6_ := g_
        subst j0_
        subst j1_
        subst j2_
        subst j3_
        subst j4_
        subst j5_
        subst j6_
        exact W.zret (v := (nI 0)) hx hb hr rfl (fun t ht hW => ⟨⟨_, (), rfl, rfl, zPost.of hP hD hK ht hW [2, 0, 1] rfl rfl rfl⟩, hS.F ht⟩) hS.2.2 dX11_read_72
  · have h := zz_t h c11
    refine lv_iconst (v := (nI 0)) hx hb dX11_read_48 rfl ?_
    obtain ⟨j0_, g_⟩ := Prod.mk.inj (Option.some.inj h)
    obtain ⟨j1_, g_⟩ := Prod.mk.inj g_
    obtain ⟨j2_, g_⟩ := Prod.mk.inj g_
    obtain ⟨j3_, g_⟩ := Prod.mk.inj g_
    obtain ⟨j4_, g_⟩ := Prod.mk.inj g_
    obtain ⟨j5_, g_⟩ := Prod.mk.inj g_
    have j6_ := g_
    subst j0_
    subst j1_
    subst j2_
    subst j3_
    subst j4_
    subst j5_
    subst j6_
    exact W.zret (v := (nI 0)) hx hb hr rfl (fun t ht hW => ⟨⟨_, (), rfl, rfl, zPost.of hP hD hK ht hW [2, 0, 1] rfl rfl rfl⟩, hS.F ht⟩) hS.2.2 dX11_read_49
/-! RunDeskModel.fault -/
theorem dX11_fault_0 : decode cX11_fault 0 = .ok (.aload_n 0, 1) := by decide +kernel
theorem dX11_fault_1 : decode cX11_fault 1 = .ok (.iconst 0, 1) := by decide +kernel
theorem dX11_fault_2 : decode cX11_fault 2 = .ok (.putfield 37, 3) := by decide +kernel
theorem dX11_fault_5 : decode cX11_fault 5 = .ok (.aload_n 0, 1) := by decide +kernel
theorem dX11_fault_6 : decode cX11_fault 6 = .ok (.iconst (-1), 1) := by decide +kernel
theorem dX11_fault_7 : decode cX11_fault 7 = .ok (.invokevirtual 195, 3) := by decide +kernel
theorem dX11_fault_10 : decode cX11_fault 10 = .ok (.istore_n 1, 1) := by decide +kernel
theorem dX11_fault_11 : decode cX11_fault 11 = .ok (.aload_n 0, 1) := by decide +kernel
theorem dX11_fault_12 : decode cX11_fault 12 = .ok (.getfield 151, 3) := by decide +kernel
theorem dX11_fault_15 : decode cX11_fault 15 = .ok (.ireturn, 1) := by decide +kernel
set_option maxRecDepth 20000 in
theorem ggX11_fault_X11_read : GoodIn wsX11_fault wsX11_read := goodIn_sub (List.forall_mem_cons.mpr ⟨List.mem_cons_of_mem _ (List.mem_append_left _ (List.mem_append_left _ (List.mem_of_getElem? (l := wsX11_fault_r1) (i := 6) rfl))), (List.forall_mem_append.mpr ⟨(List.forall_mem_append.mpr ⟨(List.forall_mem_cons.mpr ⟨List.mem_cons_of_mem _ (List.mem_append_left _ (List.mem_append_left _ (List.mem_of_getElem? (l := wsX11_fault_r1) (i := 7) rfl))), (List.forall_mem_cons.mpr ⟨List.mem_cons_of_mem _ (List.mem_append_left _ (List.mem_append_left _ (List.mem_of_getElem? (l := wsX11_fault_r1) (i := 1) rfl))), (List.forall_mem_cons.mpr ⟨List.mem_cons_of_mem _ (List.mem_append_left _ (List.mem_append_left _ (List.mem_of_getElem? (l := wsX11_fault_r1) (i := 8) rfl))), (List.forall_mem_cons.mpr ⟨List.mem_cons_of_mem _ (List.mem_append_left _ (List.mem_append_left _ (List.mem_of_getElem? (l := wsX11_fault_r1) (i := 9) rfl))), (List.forall_mem_cons.mpr ⟨List.mem_cons_of_mem _ (List.mem_append_left _ (List.mem_append_left _ (List.mem_of_getElem? (l := wsX11_fault_r1) (i := 10) rfl))), (List.forall_mem_cons.mpr ⟨List.mem_cons_of_mem _ (List.mem_append_left _ (List.mem_append_left _ (List.mem_of_getElem? (l := wsX11_fault_r1) (i := 11) rfl))), (List.forall_mem_cons.mpr ⟨List.mem_cons_of_mem _ (List.mem_append_left _ (List.mem_append_left _ (List.mem_of_getElem? (l := wsX11_fault_r1) (i := 12) rfl))), (List.forall_mem_cons.mpr ⟨List.mem_cons_of_mem _ (List.mem_append_left _ (List.mem_append_left _ (List.mem_of_getElem? (l := wsX11_fault_r1) (i := 13) rfl))), (List.forall_mem_cons.mpr ⟨List.mem_cons_of_mem _ (List.mem_append_left _ (List.mem_append_left _ (List.mem_of_getElem? (l := wsX11_fault_r1) (i := 14) rfl))), (List.forall_mem_cons.mpr ⟨List.mem_cons_of_mem _ (List.mem_append_left _ (List.mem_append_left _ (List.mem_of_getElem? (l := wsX11_fault_r1) (i := 5) rfl))), (List.forall_mem_cons.mpr ⟨List.mem_cons_of_mem _ (List.mem_append_left _ (List.mem_append_left _ (List.mem_of_getElem? (l := wsX11_fault_r1) (i := 15) rfl))), (List.forall_mem_cons.mpr ⟨List.mem_cons_of_mem _ (List.mem_append_left _ (List.mem_append_left _ (List.mem_of_getElem? (l := wsX11_fault_r1) (i := 16) rfl))), (List.forall_mem_cons.mpr ⟨List.mem_cons_of_mem _ (List.mem_append_left _ (List.mem_append_left _ (List.mem_of_getElem? (l := wsX11_fault_r1) (i := 17) rfl))), (List.forall_mem_cons.mpr ⟨List.mem_cons_of_mem _ (List.mem_append_left _ (List.mem_append_left _ (List.mem_of_getElem? (l := wsX11_fault_r1) (i := 18) rfl))), (List.forall_mem_cons.mpr ⟨List.mem_cons_of_mem _ (List.mem_append_left _ (List.mem_append_left _ (List.mem_of_getElem? (l := wsX11_fault_r1) (i := 19) rfl))), (List.forall_mem_cons.mpr ⟨List.mem_cons_of_mem _ (List.mem_append_left _ (List.mem_append_left _ (List.mem_of_getElem? (l := wsX11_fault_r1) (i := 20) rfl))), (List.forall_mem_cons.mpr ⟨List.mem_cons_of_mem _ (List.mem_append_left _ (List.mem_append_left _ (List.mem_of_getElem? (l := wsX11_fault_r1) (i := 21) rfl))), (List.forall_mem_cons.mpr ⟨List.mem_cons_of_mem _ (List.mem_append_left _ (List.mem_append_left _ (List.mem_of_getElem? (l := wsX11_fault_r1) (i := 22) rfl))), (List.forall_mem_cons.mpr ⟨List.mem_cons_of_mem _ (List.mem_append_left _ (List.mem_append_left _ (List.mem_of_getElem? (l := wsX11_fault_r1) (i := 23) rfl))), (List.forall_mem_cons.mpr ⟨List.mem_cons_of_mem _ (List.mem_append_left _ (List.mem_append_right _ (List.mem_append_left _ (List.mem_of_getElem? (l := wsX11_fault_r2) (i := 0) rfl)))), (List.forall_mem_cons.mpr ⟨List.mem_cons_of_mem _ (List.mem_append_left _ (List.mem_append_right _ (List.mem_append_left _ (List.mem_of_getElem? (l := wsX11_fault_r2) (i := 1) rfl)))), (List.forall_mem_cons.mpr ⟨List.mem_cons_of_mem _ (List.mem_append_left _ (List.mem_append_right _ (List.mem_append_left _ (List.mem_of_getElem? (l := wsX11_fault_r2) (i := 2) rfl)))), (List.forall_mem_cons.mpr ⟨List.mem_cons_of_mem _ (List.mem_append_left _ (List.mem_append_right _ (List.mem_append_left _ (List.mem_of_getElem? (l := wsX11_fault_r2) (i := 3) rfl)))), (List.forall_mem_cons.mpr ⟨List.mem_cons_of_mem _ (List.mem_append_left _ (List.mem_append_right _ (List.mem_append_left _ (List.mem_of_getElem? (l := wsX11_fault_r2) (i := 4) rfl)))), (fun _ h => nomatch h)⟩)⟩)⟩)⟩)⟩)⟩)⟩)⟩)⟩)⟩)⟩)⟩)⟩)⟩)⟩)⟩)⟩)⟩)⟩)⟩)⟩)⟩)⟩)⟩), (List.forall_mem_append.mpr ⟨(List.forall_mem_cons.mpr ⟨List.mem_cons_of_mem _ (List.mem_append_left _ (List.mem_append_right _ (List.mem_append_left _ (List.mem_of_getElem? (l := wsX11_fault_r2) (i := 5) rfl)))), (List.forall_mem_cons.mpr ⟨List.mem_cons_of_mem _ (List.mem_append_left _ (List.mem_append_right _ (List.mem_append_left _ (List.mem_of_getElem? (l := wsX11_fault_r2) (i := 6) rfl)))), (List.forall_mem_cons.mpr ⟨List.mem_cons_of_mem _ (List.mem_append_left _ (List.mem_append_right _ (List.mem_append_left _ (List.mem_of_getElem? (l := wsX11_fault_r2) (i := 7) rfl)))), (List.forall_mem_cons.mpr ⟨List.mem_cons_of_mem _ (List.mem_append_left _ (List.mem_append_right _ (List.mem_append_left _ (List.mem_of_getElem? (l := wsX11_fault_r2) (i := 8) rfl)))), (List.forall_mem_cons.mpr ⟨List.mem_cons_of_mem _ (List.mem_append_left _ (List.mem_append_right _ (List.mem_append_left _ (List.mem_of_getElem? (l := wsX11_fault_r2) (i := 9) rfl)))), (List.forall_mem_cons.mpr ⟨List.mem_cons_of_mem _ (List.mem_append_left _ (List.mem_append_right _ (List.mem_append_left _ (List.mem_of_getElem? (l := wsX11_fault_r2) (i := 10) rfl)))), (List.forall_mem_cons.mpr ⟨List.mem_cons_of_mem _ (List.mem_append_left _ (List.mem_append_right _ (List.mem_append_left _ (List.mem_of_getElem? (l := wsX11_fault_r2) (i := 11) rfl)))), (List.forall_mem_cons.mpr ⟨List.mem_cons_of_mem _ (List.mem_append_left _ (List.mem_append_right _ (List.mem_append_left _ (List.mem_of_getElem? (l := wsX11_fault_r2) (i := 12) rfl)))), (List.forall_mem_cons.mpr ⟨List.mem_cons_of_mem _ (List.mem_append_left _ (List.mem_append_right _ (List.mem_append_left _ (List.mem_of_getElem? (l := wsX11_fault_r2) (i := 13) rfl)))), (List.forall_mem_cons.mpr ⟨List.mem_cons_of_mem _ (List.mem_append_left _ (List.mem_append_right _ (List.mem_append_left _ (List.mem_of_getElem? (l := wsX11_fault_r2) (i := 14) rfl)))), (List.forall_mem_cons.mpr ⟨List.mem_cons_of_mem _ (List.mem_append_left _ (List.mem_append_right _ (List.mem_append_left _ (List.mem_of_getElem? (l := wsX11_fault_r2) (i := 15) rfl)))), (List.forall_mem_cons.mpr ⟨List.mem_cons_of_mem _ (List.mem_append_left _ (List.mem_append_right _ (List.mem_append_left _ (List.mem_of_getElem? (l := wsX11_fault_r2) (i := 16) rfl)))), (List.forall_mem_cons.mpr ⟨List.mem_cons_of_mem _ (List.mem_append_left _ (List.mem_append_right _ (List.mem_append_left _ (List.mem_of_getElem? (l := wsX11_fault_r2) (i := 17) rfl)))), (List.forall_mem_cons.mpr ⟨List.mem_cons_of_mem _ (List.mem_append_left _ (List.mem_append_right _ (List.mem_append_left _ (List.mem_of_getElem? (l := wsX11_fault_r2) (i := 18) rfl)))), (List.forall_mem_cons.mpr ⟨List.mem_cons_of_mem _ (List.mem_append_left _ (List.mem_append_right _ (List.mem_append_left _ (List.mem_of_getElem? (l := wsX11_fault_r2) (i := 19) rfl)))), (List.forall_mem_cons.mpr ⟨List.mem_cons_of_mem _ (List.mem_append_left _ (List.mem_append_right _ (List.mem_append_left _ (List.mem_of_getElem? (l := wsX11_fault_r2) (i := 20) rfl)))), (List.forall_mem_cons.mpr ⟨List.mem_cons_of_mem _ (List.mem_append_left _ (List.mem_append_right _ (List.mem_append_left _ (List.mem_of_getElem? (l := wsX11_fault_r2) (i := 21) rfl)))), (List.forall_mem_cons.mpr ⟨List.mem_cons_of_mem _ (List.mem_append_left _ (List.mem_append_right _ (List.mem_append_left _ (List.mem_of_getElem? (l := wsX11_fault_r2) (i := 22) rfl)))), (List.forall_mem_cons.mpr ⟨List.mem_cons_of_mem _ (List.mem_append_left _ (List.mem_append_right _ (List.mem_append_left _ (List.mem_of_getElem? (l := wsX11_fault_r2) (i := 23) rfl)))), (List.forall_mem_cons.mpr ⟨List.mem_cons_of_mem _ (List.mem_append_left _ (List.mem_append_right _ (List.mem_append_right _ (List.mem_of_getElem? (l := wsX11_fault_r3) (i := 0) rfl)))), (List.forall_mem_cons.mpr ⟨List.mem_cons_of_mem _ (List.mem_append_left _ (List.mem_append_right _ (List.mem_append_right _ (List.mem_of_getElem? (l := wsX11_fault_r3) (i := 1) rfl)))), (List.forall_mem_cons.mpr ⟨List.mem_cons_of_mem _ (List.mem_append_left _ (List.mem_append_right _ (List.mem_append_right _ (List.mem_of_getElem? (l := wsX11_fault_r3) (i := 2) rfl)))), (List.forall_mem_cons.mpr ⟨List.mem_cons_of_mem _ (List.mem_append_left _ (List.mem_append_right _ (List.mem_append_right _ (List.mem_of_getElem? (l := wsX11_fault_r3) (i := 3) rfl)))), (List.forall_mem_cons.mpr ⟨List.mem_cons_of_mem _ (List.mem_append_left _ (List.mem_append_right _ (List.mem_append_right _ (List.mem_of_getElem? (l := wsX11_fault_r3) (i := 4) rfl)))), (fun _ h => nomatch h)⟩)⟩)⟩)⟩)⟩)⟩)⟩)⟩)⟩)⟩)⟩)⟩)⟩)⟩)⟩)⟩)⟩)⟩)⟩)⟩)⟩)⟩)⟩)⟩), (List.forall_mem_cons.mpr ⟨List.mem_cons_of_mem _ (List.mem_append_left _ (List.mem_append_right _ (List.mem_append_right _ (List.mem_of_getElem? (l := wsX11_fault_r3) (i := 5) rfl)))), (fun _ h => nomatch h)⟩)⟩)⟩), (fun _ h => List.mem_cons_of_mem _ (List.mem_append_right _ (h)))⟩)⟩) (by decide +kernel)
set_option maxRecDepth 20000 in
theorem gX11_fault_X11_read : GoodIn wsX11_fault (wsV RX11 195 RX11 yX11_read wsX11_read) := goodIn_app (goodIn_of _ (by decide +kernel)) ggX11_fault_X11_read
theorem kX11_fault_0 : (.fieldLink RX11 37 "RunDeskModel" "thrown" "I" : Cond) ∈ wsX11_fault := List.mem_of_getElem? (i := 1) (by decide +kernel)
theorem qX11_fault_X11 : ∀ w ∈ wsX110, w ∈ wsX11_fault := fun _ h => List.mem_cons_of_mem _ (List.mem_append_right _ (h))
theorem kX11_fault_2 : (.fieldLink RX11 151 "RunDeskModel" "fault" "I" : Cond) ∈ wsX11_fault := List.mem_of_getElem? (i := 2) (by decide +kernel)
set_option maxHeartbeats 4000000 in
set_option maxRecDepth 100000 in
theorem mX11_fault (l : Launch) (D : va_G) (cB cI cZ : ClassId) (a_t : Nat) (a_t_now : Nat) (a_t_kept : Nat) (a_t_text : Nat) (a_t_passing : Nat) (a_t_order : Nat) (a_t_times : Nat) (t_thrown : Int32) (t_isKept : Int32) (t_length : Int32) (t_at : Int32) (t_fault : Int32) (t_open : Int32) (t_asked : Int32) (t_byGun : Int32) (t_prizeMost : Int32) (t_listed : Int32) (t_now : Nat → Int32) (t_text : Nat → Int32) (sz : Nat) (N : Nat) (r0 : Int32) (t_asked' : Int32) (t_at' : Int32) (t_byGun' : Int32) (t_fault' : Int32) (t_open' : Int32) (t_prizeMost' : Int32) (t_thrown' : Int32) (h : fX11_fault N t_asked t_at t_byGun t_fault t_length t_open t_prizeMost t_thrown t_now t_text = some (r0, t_asked', t_at', t_byGun', t_fault', t_open', t_prizeMost', t_thrown')) : Met l yX11_fault wsX11_fault ({ frames := 30, cells := 0, slots := 0, locals := 686 } : Room) (va_Pc [.ref a_t] (zPre D (zT cB cI cZ) [(a_t, .inr (11, [.int t_thrown, .ref a_t_now, .ref a_t_kept, .int t_isKept, .ref a_t_text, .int t_length, .ref a_t_passing, .int t_at, .int t_fault, .int t_open, .int t_asked, .int t_byGun, .int t_prizeMost, .ref a_t_order, .ref a_t_times, .int t_listed])), (a_t_now, .inl (cI, 1562, .inl t_now)), (a_t_text, .inl (cB, 200, .inl t_text))] sz)) (zQi r0 D (zT cB cI cZ) [(a_t, .inr (11, [.int t_thrown', .ref a_t_now, .ref a_t_kept, .int t_isKept, .ref a_t_text, .int t_length, .ref a_t_passing, .int t_at', .int t_fault', .int t_open', .int t_asked', .int t_byGun', .int t_prizeMost', .ref a_t_order, .ref a_t_times, .int t_listed])), (a_t_now, .inl (cI, 1562, .inl t_now)), (a_t_text, .inl (cB, 200, .inl t_text))] (va_A [(a_t, .inr (11, [.int t_thrown, .ref a_t_now, .ref a_t_kept, .int t_isKept, .ref a_t_text, .int t_length, .ref a_t_passing, .int t_at, .int t_fault, .int t_open, .int t_asked, .int t_byGun, .int t_prizeMost, .ref a_t_order, .ref a_t_times, .int t_listed])), (a_t_now, .inl (cI, 1562, .inl t_now)), (a_t_text, .inl (cB, 200, .inl t_text))] sz)) 0 0 (va_A [(a_t, .inr (11, [.int t_thrown, .ref a_t_now, .ref a_t_kept, .int t_isKept, .ref a_t_text, .int t_length, .ref a_t_passing, .int t_at, .int t_fault, .int t_open, .int t_asked, .int t_byGun, .int t_prizeMost, .ref a_t_order, .ref a_t_times, .int t_listed])), (a_t_now, .inl (cI, 1562, .inl t_now)), (a_t_text, .inl (cB, 200, .inl t_text))] sz) := by
  refine Met.ofW (cc := cX11_fault) (maxL := 2) (ret := (some .int)) (by decide) rfl ?_
  intro p e s m args below meth c s₁ B hml hv
  obtain ⟨rfl, hsz, hP, hK, hN, hZ, hD0⟩ := hv
  have hx := B.exec
  have hb := B.bytes
  have hr := B.returns
  have hts := atoms_spec (ws := wsX11_fault) B.pre
  have hown : s.vm.findClass RX11 = some m.cls := findClass_of_methodNamed B.named
  have hlocks := B.notSynchronized
  subst hsz
  have hD := hD0.self (sz := s.heap.size)
  generalize hAe : va_A [(a_t, .inr (11, [.int t_thrown, .ref a_t_now, .ref a_t_kept, .int t_isKept, .ref a_t_text, .int t_length, .ref a_t_passing, .int t_at, .int t_fault, .int t_open, .int t_asked, .int t_byGun, .int t_prizeMost, .ref a_t_order, .ref a_t_times, .int t_listed])), (a_t_now, .inl (cI, 1562, .inl t_now)), (a_t_text, .inl (cB, 200, .inl t_text))] s.heap.size = A at hD hZ ⊢
  have hA : ∀ q : Nat, s.heap.size ≤ q → A q := fun q h => by rw [← hAe]; exact Or.inr h
  have hS : va_S A s.heap s.heap [] := va_S.rf
  have hl := lv_entry ([.ref a_t]) (n := 2) (Nat.le_of_ble_eq_true rfl)
  rw [lg_entry_eq]
  generalize (lg_sl ([.ref a_t]) ++ List.replicate (2 - (lg_sl ([.ref a_t])).length) Slot.unset).toArray = ls at hl ⊢
  have hl : lv_has ls 2 [(0, .ref a_t)] := hl
  unfold fX11_fault at h
  refine lv_aload_n hx hb dX11_fault_0 rfl (lv_at hl 0 rfl) ?_
  refine lv_iconst (v := (nI 0)) hx hb dX11_fault_1 rfl ?_
  refine va_put (D := D) (ci := 11) (ty := .int) (C := RX11) (T := TX11) (N := 16) hx hb hts qX11_fault_X11 tyX11 tyX11_ok nmX11 hown hK hP hD hS 0 rfl rfl 0 (by decide) (hts _ kX11_fault_0) (fun _ h9 => h9) rfl (by decide +kernel) rfl (by first | rfl | exact zz_fit) (Nat.le_of_ble_eq_true rfl) dX11_fault_2 (fun H locs hP hD hS => ?_)
  have hP : va_P D vwCl [(a_t, .inr (11, [.int (nI 0), .ref a_t_now, .ref a_t_kept, .int t_isKept, .ref a_t_text, .int t_length, .ref a_t_passing, .int t_at, .int t_fault, .int t_open, .int t_asked, .int t_byGun, .int t_prizeMost, .ref a_t_order, .ref a_t_times, .int t_listed])), (a_t_now, .inl (cI, 1562, .inl t_now)), (a_t_text, .inl (cB, 200, .inl t_text))] H := hP
  have hD : va_D A [(a_t, .inr (11, [.int (nI 0), .ref a_t_now, .ref a_t_kept, .int t_isKept, .ref a_t_text, .int t_length, .ref a_t_passing, .int t_at, .int t_fault, .int t_open, .int t_asked, .int t_byGun, .int t_prizeMost, .ref a_t_order, .ref a_t_times, .int t_listed])), (a_t_now, .inl (cI, 1562, .inl t_now)), (a_t_text, .inl (cB, 200, .inl t_text))] := hD
  refine lv_aload_n hx hb dX11_fault_5 rfl (lv_at hl 0 rfl) ?_
  refine lv_iconst (v := (-1 : Int32)) hx hb dX11_fault_6 rfl ?_
  obtain ⟨⟨b1, t_asked_r2, t_at_r3, t_byGun_r4, t_fault_r5, t_open_r6, t_prizeMost_r7⟩, e8, h⟩ := zz_b h
  dsimp only at h
  refine zVi (As := [.int (-1 : Int32)]) (rest := []) (C := RX11) (wr := []) [0, 1, 2] [] 0 ⟨hx, hb, hml, hown, hts⟩ (mX11_read l D cB cI cZ a_t a_t_now a_t_kept a_t_text a_t_passing a_t_order a_t_times (nI 0) t_isKept t_length t_at t_fault t_open t_asked t_byGun t_prizeMost t_listed t_now t_text H.size (-1 : Int32) N b1 t_asked_r2 t_at_r3 t_byGun_r4 t_fault_r5 t_open_r6 t_prizeMost_r7 e8) (cwV 1 hts gX11_fault_X11_read rfl rfl rfl (by decide +kernel) ⟨Nat.le_of_ble_eq_true rfl, Nat.le_of_ble_eq_true rfl⟩) hK hN hZ hP hD hS hA rfl rfl rfl rfl rfl rfl rfl rfl hl.1 rfl (lv_room (Nat.le_of_ble_eq_true rfl)) dX11_fault_7 ⟨Nat.le_of_ble_eq_true rfl, Nat.le_of_ble_eq_true rfl⟩ (fun H locs hP hD hS => ?_)
  have hP : va_P D vwCl [(a_t, .inr (11, [.int (nI 0), .ref a_t_now, .ref a_t_kept, .int t_isKept, .ref a_t_text, .int t_length, .ref a_t_passing, .int t_at_r3, .int t_fault_r5, .int t_open_r6, .int t_asked_r2, .int t_byGun_r4, .int t_prizeMost_r7, .ref a_t_order, .ref a_t_times, .int t_listed])), (a_t_now, .inl (cI, 1562, .inl t_now)), (a_t_text, .inl (cB, 200, .inl t_text))] H := hP
  have hD : va_D A [(a_t, .inr (11, [.int (nI 0), .ref a_t_now, .ref a_t_kept, .int t_isKept, .ref a_t_text, .int t_length, .ref a_t_passing, .int t_at_r3, .int t_fault_r5, .int t_open_r6, .int t_asked_r2, .int t_byGun_r4, .int t_prizeMost_r7, .ref a_t_order, .ref a_t_times, .int t_listed])), (a_t_now, .inl (cI, 1562, .inl t_now)), (a_t_text, .inl (cB, 200, .inl t_text))] := hD
  refine lv_istore_n (lv' := [(1, .int (zb b1)), (0, .ref a_t)]) hx hb dX11_fault_10 rfl hl (by decide) rfl (fun ls hl => ?_)
  refine lv_aload_n hx hb dX11_fault_11 rfl (lv_at hl 1 rfl) ?_
  refine va_get (D := D) (ci := 11) (C := RX11) (T := TX11) (N := 16) hx hb hts qX11_fault_X11 hown hK hP 0 rfl rfl 8 (by decide) (hts _ kX11_fault_2) (fun _ h9 => h9) rfl dX11_fault_12 ?_
  obtain ⟨j0_, g_⟩ := Prod.mk.inj (Option.some.inj h)
  obtain ⟨j1_, g_⟩ := Prod.mk.inj g_
  obtain ⟨j2_, g_⟩ := Prod.mk.inj g_
  obtain ⟨j3_, g_⟩ := Prod.mk.inj g_
  obtain ⟨j4_, g_⟩ := Prod.mk.inj g_
  obtain ⟨j5_, g_⟩ := Prod.mk.inj g_
  obtain ⟨j6_, g_⟩ := Prod.mk.inj g_
  have j7_ := g_
  subst j0_
  subst j1_
  subst j2_
  subst j3_
  subst j4_
  subst j5_
  subst j6_
  subst j7_
  exact W.iret (v := t_fault_r5) hx hb hr (fun t ht hW => ⟨⟨_, (), rfl, rfl, zPost.of hP hD hK ht hW [0, 1, 2] rfl rfl rfl⟩, hS.F ht⟩) hS.2.2 dX11_fault_15
/-! RunDeskModel.list -/
theorem dX11_list_0 : decode cX11_list 0 = .ok (.aload_n 0, 1) := by decide +kernel
theorem dX11_list_1 : decode cX11_list 1 = .ok (.iconst (-1), 1) := by decide +kernel
theorem dX11_list_2 : decode cX11_list 2 = .ok (.invokevirtual 195, 3) := by decide +kernel
theorem dX11_list_5 : decode cX11_list 5 = .ok (.istore_n 1, 1) := by decide +kernel
theorem dX11_list_6 : decode cX11_list 6 = .ok (.aload_n 0, 1) := by decide +kernel
theorem dX11_list_7 : decode cX11_list 7 = .ok (.getfield 151, 3) := by decide +kernel
theorem dX11_list_10 : decode cX11_list 10 = .ok (.iconst (-1), 1) := by decide +kernel
theorem dX11_list_11 : decode cX11_list 11 = .ok (.if_icmp .eq 5, 3) := by decide +kernel
theorem dX11_list_14 : decode cX11_list 14 = .ok (.iconst 0, 1) := by decide +kernel
theorem dX11_list_15 : decode cX11_list 15 = .ok (.ireturn, 1) := by decide +kernel
theorem dX11_list_16 : decode cX11_list 16 = .ok (.aload_n 0, 1) := by decide +kernel
theorem dX11_list_17 : decode cX11_list 17 = .ok (.iconst 0, 1) := by decide +kernel
theorem dX11_list_18 : decode cX11_list 18 = .ok (.putfield 198, 3) := by decide +kernel
theorem dX11_list_21 : decode cX11_list 21 = .ok (.iconst 0, 1) := by decide +kernel
theorem dX11_list_22 : decode cX11_list 22 = .ok (.istore_n 2, 1) := by decide +kernel
theorem dX11_list_23 : decode cX11_list 23 = .ok (.iload_n 2, 1) := by decide +kernel
theorem dX11_list_24 : decode cX11_list 24 = .ok (.aload_n 0, 1) := by decide +kernel
theorem dX11_list_25 : decode cX11_list 25 = .ok (.invokevirtual 45, 3) := by decide +kernel
theorem dX11_list_28 : decode cX11_list 28 = .ok (.if_icmp .ge 140, 3) := by decide +kernel
theorem dX11_list_31 : decode cX11_list 31 = .ok (.aload_n 0, 1) := by decide +kernel
theorem dX11_list_32 : decode cX11_list 32 = .ok (.iload_n 2, 1) := by decide +kernel
theorem dX11_list_33 : decode cX11_list 33 = .ok (.invokevirtual 89, 3) := by decide +kernel
theorem dX11_list_36 : decode cX11_list 36 = .ok (.iconst 2, 1) := by decide +kernel
theorem dX11_list_37 : decode cX11_list 37 = .ok (.if_icmp .ne 125, 3) := by decide +kernel
theorem dX11_list_40 : decode cX11_list 40 = .ok (.aload_n 0, 1) := by decide +kernel
theorem dX11_list_41 : decode cX11_list 41 = .ok (.iload_n 2, 1) := by decide +kernel
theorem dX11_list_42 : decode cX11_list 42 = .ok (.invokevirtual 195, 3) := by decide +kernel
theorem dX11_list_45 : decode cX11_list 45 = .ok (.ifCond .eq 117, 3) := by decide +kernel
theorem dX11_list_48 : decode cX11_list 48 = .ok (.aload_n 0, 1) := by decide +kernel
theorem dX11_list_49 : decode cX11_list 49 = .ok (.iload_n 2, 1) := by decide +kernel
theorem dX11_list_50 : decode cX11_list 50 = .ok (.aload_n 0, 1) := by decide +kernel
theorem dX11_list_51 : decode cX11_list 51 = .ok (.getfield 188, 3) := by decide +kernel
theorem dX11_list_54 : decode cX11_list 54 = .ok (.invokevirtual 98, 3) := by decide +kernel
theorem dX11_list_57 : decode cX11_list 57 = .ok (.iconst (-1), 1) := by decide +kernel
theorem dX11_list_58 : decode cX11_list 58 = .ok (.if_icmp .ne 6, 3) := by decide +kernel
theorem dX11_list_61 : decode cX11_list 61 = .ok (.goto 101, 3) := by decide +kernel
theorem dX11_list_64 : decode cX11_list 64 = .ok (.aload_n 0, 1) := by decide +kernel
theorem dX11_list_65 : decode cX11_list 65 = .ok (.iload_n 2, 1) := by decide +kernel
theorem dX11_list_66 : decode cX11_list 66 = .ok (.aload_n 0, 1) := by decide +kernel
theorem dX11_list_67 : decode cX11_list 67 = .ok (.getfield 188, 3) := by decide +kernel
theorem dX11_list_70 : decode cX11_list 70 = .ok (.invokevirtual 98, 3) := by decide +kernel
theorem dX11_list_73 : decode cX11_list 73 = .ok (.istore_n 3, 1) := by decide +kernel
theorem dX11_list_74 : decode cX11_list 74 = .ok (.aload_n 0, 1) := by decide +kernel
theorem dX11_list_75 : decode cX11_list 75 = .ok (.getfield 198, 3) := by decide +kernel
theorem dX11_list_78 : decode cX11_list 78 = .ok (.istore 4, 2) := by decide +kernel
theorem dX11_list_80 : decode cX11_list 80 = .ok (.iload 4, 2) := by decide +kernel
theorem dX11_list_82 : decode cX11_list 82 = .ok (.ifCond .le 54, 3) := by decide +kernel
theorem dX11_list_85 : decode cX11_list 85 = .ok (.aload_n 0, 1) := by decide +kernel
theorem dX11_list_86 : decode cX11_list 86 = .ok (.getfield 26, 3) := by decide +kernel
theorem dX11_list_89 : decode cX11_list 89 = .ok (.iload 4, 2) := by decide +kernel
theorem dX11_list_91 : decode cX11_list 91 = .ok (.iconst 1, 1) := by decide +kernel
theorem dX11_list_92 : decode cX11_list 92 = .ok (.isub, 1) := by decide +kernel
theorem dX11_list_93 : decode cX11_list 93 = .ok (.iaload, 1) := by decide +kernel
theorem dX11_list_94 : decode cX11_list 94 = .ok (.iload_n 3, 1) := by decide +kernel
theorem dX11_list_95 : decode cX11_list 95 = .ok (.if_icmp .le 41, 3) := by decide +kernel
theorem dX11_list_98 : decode cX11_list 98 = .ok (.aload_n 0, 1) := by decide +kernel
theorem dX11_list_99 : decode cX11_list 99 = .ok (.getfield 26, 3) := by decide +kernel
theorem dX11_list_102 : decode cX11_list 102 = .ok (.iload 4, 2) := by decide +kernel
theorem dX11_list_104 : decode cX11_list 104 = .ok (.aload_n 0, 1) := by decide +kernel
theorem dX11_list_105 : decode cX11_list 105 = .ok (.getfield 26, 3) := by decide +kernel
theorem dX11_list_108 : decode cX11_list 108 = .ok (.iload 4, 2) := by decide +kernel
theorem dX11_list_110 : decode cX11_list 110 = .ok (.iconst 1, 1) := by decide +kernel
theorem dX11_list_111 : decode cX11_list 111 = .ok (.isub, 1) := by decide +kernel
theorem dX11_list_112 : decode cX11_list 112 = .ok (.iaload, 1) := by decide +kernel
theorem dX11_list_113 : decode cX11_list 113 = .ok (.iastore, 1) := by decide +kernel
theorem dX11_list_114 : decode cX11_list 114 = .ok (.aload_n 0, 1) := by decide +kernel
theorem dX11_list_115 : decode cX11_list 115 = .ok (.getfield 23, 3) := by decide +kernel
theorem dX11_list_118 : decode cX11_list 118 = .ok (.iload 4, 2) := by decide +kernel
theorem dX11_list_120 : decode cX11_list 120 = .ok (.aload_n 0, 1) := by decide +kernel
theorem dX11_list_121 : decode cX11_list 121 = .ok (.getfield 23, 3) := by decide +kernel
theorem dX11_list_124 : decode cX11_list 124 = .ok (.iload 4, 2) := by decide +kernel
theorem dX11_list_126 : decode cX11_list 126 = .ok (.iconst 1, 1) := by decide +kernel
theorem dX11_list_127 : decode cX11_list 127 = .ok (.isub, 1) := by decide +kernel
theorem dX11_list_128 : decode cX11_list 128 = .ok (.iaload, 1) := by decide +kernel
theorem dX11_list_129 : decode cX11_list 129 = .ok (.iastore, 1) := by decide +kernel
theorem dX11_list_130 : decode cX11_list 130 = .ok (.iinc 4 (-1), 3) := by decide +kernel
theorem dX11_list_133 : decode cX11_list 133 = .ok (.goto (-53), 3) := by decide +kernel
theorem dX11_list_136 : decode cX11_list 136 = .ok (.aload_n 0, 1) := by decide +kernel
theorem dX11_list_137 : decode cX11_list 137 = .ok (.getfield 26, 3) := by decide +kernel
theorem dX11_list_140 : decode cX11_list 140 = .ok (.iload 4, 2) := by decide +kernel
theorem dX11_list_142 : decode cX11_list 142 = .ok (.iload_n 3, 1) := by decide +kernel
theorem dX11_list_143 : decode cX11_list 143 = .ok (.iastore, 1) := by decide +kernel
theorem dX11_list_144 : decode cX11_list 144 = .ok (.aload_n 0, 1) := by decide +kernel
theorem dX11_list_145 : decode cX11_list 145 = .ok (.getfield 23, 3) := by decide +kernel
theorem dX11_list_148 : decode cX11_list 148 = .ok (.iload 4, 2) := by decide +kernel
theorem dX11_list_150 : decode cX11_list 150 = .ok (.iload_n 2, 1) := by decide +kernel
theorem dX11_list_151 : decode cX11_list 151 = .ok (.iastore, 1) := by decide +kernel
theorem dX11_list_152 : decode cX11_list 152 = .ok (.aload_n 0, 1) := by decide +kernel
theorem dX11_list_153 : decode cX11_list 153 = .ok (.dup, 1) := by decide +kernel
theorem dX11_list_154 : decode cX11_list 154 = .ok (.getfield 198, 3) := by decide +kernel
theorem dX11_list_157 : decode cX11_list 157 = .ok (.iconst 1, 1) := by decide +kernel
theorem dX11_list_158 : decode cX11_list 158 = .ok (.iadd, 1) := by decide +kernel
theorem dX11_list_159 : decode cX11_list 159 = .ok (.putfield 198, 3) := by decide +kernel
theorem dX11_list_162 : decode cX11_list 162 = .ok (.iinc 2 1, 3) := by decide +kernel
theorem dX11_list_165 : decode cX11_list 165 = .ok (.goto (-142), 3) := by decide +kernel
theorem dX11_list_168 : decode cX11_list 168 = .ok (.iconst 1, 1) := by decide +kernel
theorem dX11_list_169 : decode cX11_list 169 = .ok (.ireturn, 1) := by decide +kernel
set_option maxRecDepth 20000 in
theorem ggX11_list_X11_read : GoodIn wsX11_list wsX11_read := goodIn_sub (List.forall_mem_cons.mpr ⟨List.mem_cons_of_mem _ (List.mem_append_left _ (List.mem_append_left _ (List.mem_of_getElem? (l := wsX11_list_r1) (i := 9) rfl))), (List.forall_mem_append.mpr ⟨(List.forall_mem_append.mpr ⟨(List.forall_mem_cons.mpr ⟨List.mem_cons_of_mem _ (List.mem_append_left _ (List.mem_append_left _ (List.mem_of_getElem? (l := wsX11_list_r1) (i := 10) rfl))), (List.forall_mem_cons.mpr ⟨List.mem_cons_of_mem _ (List.mem_append_left _ (List.mem_append_left _ (List.mem_of_getElem? (l := wsX11_list_r1) (i := 0) rfl))), (List.forall_mem_cons.mpr ⟨List.mem_cons_of_mem _ (List.mem_append_left _ (List.mem_append_left _ (List.mem_of_getElem? (l := wsX11_list_r1) (i := 11) rfl))), (List.forall_mem_cons.mpr ⟨List.mem_cons_of_mem _ (List.mem_append_left _ (List.mem_append_left _ (List.mem_of_getElem? (l := wsX11_list_r1) (i := 12) rfl))), (List.forall_mem_cons.mpr ⟨List.mem_cons_of_mem _ (List.mem_append_left _ (List.mem_append_left _ (List.mem_of_getElem? (l := wsX11_list_r1) (i := 2) rfl))), (List.forall_mem_cons.mpr ⟨List.mem_cons_of_mem _ (List.mem_append_left _ (List.mem_append_left _ (List.mem_of_getElem? (l := wsX11_list_r1) (i := 13) rfl))), (List.forall_mem_cons.mpr ⟨List.mem_cons_of_mem _ (List.mem_append_left _ (List.mem_append_left _ (List.mem_of_getElem? (l := wsX11_list_r1) (i := 14) rfl))), (List.forall_mem_cons.mpr ⟨List.mem_cons_of_mem _ (List.mem_append_left _ (List.mem_append_left _ (List.mem_of_getElem? (l := wsX11_list_r1) (i := 15) rfl))), (List.forall_mem_cons.mpr ⟨List.mem_cons_of_mem _ (List.mem_append_left _ (List.mem_append_left _ (List.mem_of_getElem? (l := wsX11_list_r1) (i := 16) rfl))), (List.forall_mem_cons.mpr ⟨List.mem_cons_of_mem _ (List.mem_append_left _ (List.mem_append_left _ (List.mem_of_getElem? (l := wsX11_list_r1) (i := 8) rfl))), (List.forall_mem_cons.mpr ⟨List.mem_cons_of_mem _ (List.mem_append_left _ (List.mem_append_left _ (List.mem_of_getElem? (l := wsX11_list_r1) (i := 17) rfl))), (List.forall_mem_cons.mpr ⟨List.mem_cons_of_mem _ (List.mem_append_left _ (List.mem_append_left _ (List.mem_of_getElem? (l := wsX11_list_r1) (i := 18) rfl))), (List.forall_mem_cons.mpr ⟨List.mem_cons_of_mem _ (List.mem_append_left _ (List.mem_append_left _ (List.mem_of_getElem? (l := wsX11_list_r1) (i := 19) rfl))), (List.forall_mem_cons.mpr ⟨List.mem_cons_of_mem _ (List.mem_append_left _ (List.mem_append_left _ (List.mem_of_getElem? (l := wsX11_list_r1) (i := 20) rfl))), (List.forall_mem_cons.mpr ⟨List.mem_cons_of_mem _ (List.mem_append_left _ (List.mem_append_left _ (List.mem_of_getElem? (l := wsX11_list_r1) (i := 21) rfl))), (List.forall_mem_cons.mpr ⟨List.mem_cons_of_mem _ (List.mem_append_left _ (List.mem_append_left _ (List.mem_of_getElem? (l := wsX11_list_r1) (i := 22) rfl))), (List.forall_mem_cons.mpr ⟨List.mem_cons_of_mem _ (List.mem_append_left _ (List.mem_append_left _ (List.mem_of_getElem? (l := wsX11_list_r1) (i := 23) rfl))), (List.forall_mem_cons.mpr ⟨List.mem_cons_of_mem _ (List.mem_append_left _ (List.mem_append_right _ (List.mem_append_left _ (List.mem_of_getElem? (l := wsX11_list_r2) (i := 0) rfl)))), (List.forall_mem_cons.mpr ⟨List.mem_cons_of_mem _ (List.mem_append_left _ (List.mem_append_right _ (List.mem_append_left _ (List.mem_of_getElem? (l := wsX11_list_r2) (i := 1) rfl)))), (List.forall_mem_cons.mpr ⟨List.mem_cons_of_mem _ (List.mem_append_left _ (List.mem_append_right _ (List.mem_append_left _ (List.mem_of_getElem? (l := wsX11_list_r2) (i := 2) rfl)))), (List.forall_mem_cons.mpr ⟨List.mem_cons_of_mem _ (List.mem_append_left _ (List.mem_append_right _ (List.mem_append_left _ (List.mem_of_getElem? (l := wsX11_list_r2) (i := 3) rfl)))), (List.forall_mem_cons.mpr ⟨List.mem_cons_of_mem _ (List.mem_append_left _ (List.mem_append_right _ (List.mem_append_left _ (List.mem_of_getElem? (l := wsX11_list_r2) (i := 4) rfl)))), (List.forall_mem_cons.mpr ⟨List.mem_cons_of_mem _ (List.mem_append_left _ (List.mem_append_right _ (List.mem_append_left _ (List.mem_of_getElem? (l := wsX11_list_r2) (i := 5) rfl)))), (List.forall_mem_cons.mpr ⟨List.mem_cons_of_mem _ (List.mem_append_left _ (List.mem_append_right _ (List.mem_append_left _ (List.mem_of_getElem? (l := wsX11_list_r2) (i := 6) rfl)))), (fun _ h => nomatch h)⟩)⟩)⟩)⟩)⟩)⟩)⟩)⟩)⟩)⟩)⟩)⟩)⟩)⟩)⟩)⟩)⟩)⟩)⟩)⟩)⟩)⟩)⟩)⟩), (List.forall_mem_append.mpr ⟨(List.forall_mem_cons.mpr ⟨List.mem_cons_of_mem _ (List.mem_append_left _ (List.mem_append_right _ (List.mem_append_left _ (List.mem_of_getElem? (l := wsX11_list_r2) (i := 7) rfl)))), (List.forall_mem_cons.mpr ⟨List.mem_cons_of_mem _ (List.mem_append_left _ (List.mem_append_right _ (List.mem_append_left _ (List.mem_of_getElem? (l := wsX11_list_r2) (i := 8) rfl)))), (List.forall_mem_cons.mpr ⟨List.mem_cons_of_mem _ (List.mem_append_left _ (List.mem_append_right _ (List.mem_append_left _ (List.mem_of_getElem? (l := wsX11_list_r2) (i := 9) rfl)))), (List.forall_mem_cons.mpr ⟨List.mem_cons_of_mem _ (List.mem_append_left _ (List.mem_append_right _ (List.mem_append_left _ (List.mem_of_getElem? (l := wsX11_list_r2) (i := 10) rfl)))), (List.forall_mem_cons.mpr ⟨List.mem_cons_of_mem _ (List.mem_append_left _ (List.mem_append_right _ (List.mem_append_left _ (List.mem_of_getElem? (l := wsX11_list_r2) (i := 11) rfl)))), (List.forall_mem_cons.mpr ⟨List.mem_cons_of_mem _ (List.mem_append_left _ (List.mem_append_right _ (List.mem_append_left _ (List.mem_of_getElem? (l := wsX11_list_r2) (i := 12) rfl)))), (List.forall_mem_cons.mpr ⟨List.mem_cons_of_mem _ (List.mem_append_left _ (List.mem_append_right _ (List.mem_append_left _ (List.mem_of_getElem? (l := wsX11_list_r2) (i := 13) rfl)))), (List.forall_mem_cons.mpr ⟨List.mem_cons_of_mem _ (List.mem_append_left _ (List.mem_append_right _ (List.mem_append_left _ (List.mem_of_getElem? (l := wsX11_list_r2) (i := 14) rfl)))), (List.forall_mem_cons.mpr ⟨List.mem_cons_of_mem _ (List.mem_append_left _ (List.mem_append_right _ (List.mem_append_left _ (List.mem_of_getElem? (l := wsX11_list_r2) (i := 15) rfl)))), (List.forall_mem_cons.mpr ⟨List.mem_cons_of_mem _ (List.mem_append_left _ (List.mem_append_right _ (List.mem_append_left _ (List.mem_of_getElem? (l := wsX11_list_r2) (i := 16) rfl)))), (List.forall_mem_cons.mpr ⟨List.mem_cons_of_mem _ (List.mem_append_left _ (List.mem_append_right _ (List.mem_append_left _ (List.mem_of_getElem? (l := wsX11_list_r2) (i := 17) rfl)))), (List.forall_mem_cons.mpr ⟨List.mem_cons_of_mem _ (List.mem_append_left _ (List.mem_append_right _ (List.mem_append_left _ (List.mem_of_getElem? (l := wsX11_list_r2) (i := 18) rfl)))), (List.forall_mem_cons.mpr ⟨List.mem_cons_of_mem _ (List.mem_append_left _ (List.mem_append_right _ (List.mem_append_left _ (List.mem_of_getElem? (l := wsX11_list_r2) (i := 19) rfl)))), (List.forall_mem_cons.mpr ⟨List.mem_cons_of_mem _ (List.mem_append_left _ (List.mem_append_right _ (List.mem_append_left _ (List.mem_of_getElem? (l := wsX11_list_r2) (i := 20) rfl)))), (List.forall_mem_cons.mpr ⟨List.mem_cons_of_mem _ (List.mem_append_left _ (List.mem_append_right _ (List.mem_append_left _ (List.mem_of_getElem? (l := wsX11_list_r2) (i := 21) rfl)))), (List.forall_mem_cons.mpr ⟨List.mem_cons_of_mem _ (List.mem_append_left _ (List.mem_append_right _ (List.mem_append_left _ (List.mem_of_getElem? (l := wsX11_list_r2) (i := 22) rfl)))), (List.forall_mem_cons.mpr ⟨List.mem_cons_of_mem _ (List.mem_append_left _ (List.mem_append_right _ (List.mem_append_left _ (List.mem_of_getElem? (l := wsX11_list_r2) (i := 23) rfl)))), (List.forall_mem_cons.mpr ⟨List.mem_cons_of_mem _ (List.mem_append_left _ (List.mem_append_right _ (List.mem_append_right _ (List.mem_append_left _ (List.mem_of_getElem? (l := wsX11_list_r3) (i := 0) rfl))))), (List.forall_mem_cons.mpr ⟨List.mem_cons_of_mem _ (List.mem_append_left _ (List.mem_append_right _ (List.mem_append_right _ (List.mem_append_left _ (List.mem_of_getElem? (l := wsX11_list_r3) (i := 1) rfl))))), (List.forall_mem_cons.mpr ⟨List.mem_cons_of_mem _ (List.mem_append_left _ (List.mem_append_right _ (List.mem_append_right _ (List.mem_append_left _ (List.mem_of_getElem? (l := wsX11_list_r3) (i := 2) rfl))))), (List.forall_mem_cons.mpr ⟨List.mem_cons_of_mem _ (List.mem_append_left _ (List.mem_append_right _ (List.mem_append_right _ (List.mem_append_left _ (List.mem_of_getElem? (l := wsX11_list_r3) (i := 3) rfl))))), (List.forall_mem_cons.mpr ⟨List.mem_cons_of_mem _ (List.mem_append_left _ (List.mem_append_right _ (List.mem_append_right _ (List.mem_append_left _ (List.mem_of_getElem? (l := wsX11_list_r3) (i := 4) rfl))))), (List.forall_mem_cons.mpr ⟨List.mem_cons_of_mem _ (List.mem_append_left _ (List.mem_append_right _ (List.mem_append_right _ (List.mem_append_left _ (List.mem_of_getElem? (l := wsX11_list_r3) (i := 5) rfl))))), (List.forall_mem_cons.mpr ⟨List.mem_cons_of_mem _ (List.mem_append_left _ (List.mem_append_right _ (List.mem_append_right _ (List.mem_append_left _ (List.mem_of_getElem? (l := wsX11_list_r3) (i := 6) rfl))))), (fun _ h => nomatch h)⟩)⟩)⟩)⟩)⟩)⟩)⟩)⟩)⟩)⟩)⟩)⟩)⟩)⟩)⟩)⟩)⟩)⟩)⟩)⟩)⟩)⟩)⟩)⟩), (List.forall_mem_cons.mpr ⟨List.mem_cons_of_mem _ (List.mem_append_left _ (List.mem_append_right _ (List.mem_append_right _ (List.mem_append_left _ (List.mem_of_getElem? (l := wsX11_list_r3) (i := 7) rfl))))), (fun _ h => nomatch h)⟩)⟩)⟩), (fun _ h => List.mem_cons_of_mem _ (List.mem_append_right _ (h)))⟩)⟩) (by decide +kernel)
set_option maxRecDepth 20000 in
theorem gX11_list_X11_read : GoodIn wsX11_list (wsV RX11 195 RX11 yX11_read wsX11_read) := goodIn_app (goodIn_of _ (by decide +kernel)) ggX11_list_X11_read
set_option maxRecDepth 20000 in
theorem ggX11_list_X11_runners : GoodIn wsX11_list wsX11_runners := goodIn_sub (List.forall_mem_cons.mpr ⟨List.mem_cons_of_mem _ (List.mem_append_left _ (List.mem_append_right _ (List.mem_append_right _ (List.mem_append_left _ (List.mem_of_getElem? (l := wsX11_list_r3) (i := 11) rfl))))), (List.forall_mem_append.mpr ⟨(List.forall_mem_cons.mpr ⟨List.mem_cons_of_mem _ (List.mem_append_left _ (List.mem_append_right _ (List.mem_append_right _ (List.mem_append_left _ (List.mem_of_getElem? (l := wsX11_list_r3) (i := 7) rfl))))), (fun _ h => nomatch h)⟩), (fun _ h => List.mem_cons_of_mem _ (List.mem_append_right _ (h)))⟩)⟩) (by decide +kernel)
set_option maxRecDepth 20000 in
theorem gX11_list_X11_runners : GoodIn wsX11_list (wsV RX11 45 RX11 yX11_runners wsX11_runners) := goodIn_app (goodIn_of _ (by decide +kernel)) ggX11_list_X11_runners
set_option maxRecDepth 20000 in
theorem ggX11_list_X11_stateOf : GoodIn wsX11_list wsX11_stateOf := goodIn_sub (List.forall_mem_cons.mpr ⟨List.mem_cons_of_mem _ (List.mem_append_left _ (List.mem_append_right _ (List.mem_append_right _ (List.mem_append_left _ (List.mem_of_getElem? (l := wsX11_list_r3) (i := 15) rfl))))), (List.forall_mem_append.mpr ⟨(List.forall_mem_append.mpr ⟨(List.forall_mem_cons.mpr ⟨List.mem_cons_of_mem _ (List.mem_append_left _ (List.mem_append_right _ (List.mem_append_right _ (List.mem_append_left _ (List.mem_of_getElem? (l := wsX11_list_r3) (i := 3) rfl))))), (List.forall_mem_cons.mpr ⟨List.mem_cons_of_mem _ (List.mem_append_left _ (List.mem_append_right _ (List.mem_append_right _ (List.mem_append_left _ (List.mem_of_getElem? (l := wsX11_list_r3) (i := 4) rfl))))), (List.forall_mem_cons.mpr ⟨List.mem_cons_of_mem _ (List.mem_append_left _ (List.mem_append_right _ (List.mem_append_right _ (List.mem_append_left _ (List.mem_of_getElem? (l := wsX11_list_r3) (i := 5) rfl))))), (List.forall_mem_cons.mpr ⟨List.mem_cons_of_mem _ (List.mem_append_left _ (List.mem_append_left _ (List.mem_of_getElem? (l := wsX11_list_r1) (i := 8) rfl))), (List.forall_mem_cons.mpr ⟨List.mem_cons_of_mem _ (List.mem_append_left _ (List.mem_append_right _ (List.mem_append_right _ (List.mem_append_left _ (List.mem_of_getElem? (l := wsX11_list_r3) (i := 6) rfl))))), (List.forall_mem_cons.mpr ⟨List.mem_cons_of_mem _ (List.mem_append_left _ (List.mem_append_right _ (List.mem_append_right _ (List.mem_append_left _ (List.mem_of_getElem? (l := wsX11_list_r3) (i := 7) rfl))))), (List.forall_mem_cons.mpr ⟨List.mem_cons_of_mem _ (List.mem_append_left _ (List.mem_append_right _ (List.mem_append_right _ (List.mem_append_left _ (List.mem_of_getElem? (l := wsX11_list_r3) (i := 16) rfl))))), (List.forall_mem_cons.mpr ⟨List.mem_cons_of_mem _ (List.mem_append_left _ (List.mem_append_right _ (List.mem_append_right _ (List.mem_append_left _ (List.mem_of_getElem? (l := wsX11_list_r3) (i := 17) rfl))))), (List.forall_mem_cons.mpr ⟨List.mem_cons_of_mem _ (List.mem_append_left _ (List.mem_append_right _ (List.mem_append_right _ (List.mem_append_left _ (List.mem_of_getElem? (l := wsX11_list_r3) (i := 18) rfl))))), (List.forall_mem_cons.mpr ⟨List.mem_cons_of_mem _ (List.mem_append_left _ (List.mem_append_right _ (List.mem_append_right _ (List.mem_append_left _ (List.mem_of_getElem? (l := wsX11_list_r3) (i := 19) rfl))))), (List.forall_mem_cons.mpr ⟨List.mem_cons_of_mem _ (List.mem_append_left _ (List.mem_append_right _ (List.mem_append_right _ (List.mem_append_left _ (List.mem_of_getElem? (l := wsX11_list_r3) (i := 20) rfl))))), (List.forall_mem_cons.mpr ⟨List.mem_cons_of_mem _ (List.mem_append_left _ (List.mem_append_right _ (List.mem_append_right _ (List.mem_append_left _ (List.mem_of_getElem? (l := wsX11_list_r3) (i := 21) rfl))))), (List.forall_mem_cons.mpr ⟨List.mem_cons_of_mem _ (List.mem_append_left _ (List.mem_append_right _ (List.mem_append_right _ (List.mem_append_left _ (List.mem_of_getElem? (l := wsX11_list_r3) (i := 22) rfl))))), (List.forall_mem_cons.mpr ⟨List.mem_cons_of_mem _ (List.mem_append_left _ (List.mem_append_right _ (List.mem_append_right _ (List.mem_append_left _ (List.mem_of_getElem? (l := wsX11_list_r3) (i := 23) rfl))))), (List.forall_mem_cons.mpr ⟨List.mem_cons_of_mem _ (List.mem_append_left _ (List.mem_append_right _ (List.mem_append_right _ (List.mem_append_right _ (List.mem_of_getElem? (l := wsX11_list_r4) (i := 0) rfl))))), (List.forall_mem_cons.mpr ⟨List.mem_cons_of_mem _ (List.mem_append_left _ (List.mem_append_right _ (List.mem_append_right _ (List.mem_append_right _ (List.mem_of_getElem? (l := wsX11_list_r4) (i := 1) rfl))))), (List.forall_mem_cons.mpr ⟨List.mem_cons_of_mem _ (List.mem_append_left _ (List.mem_append_right _ (List.mem_append_right _ (List.mem_append_right _ (List.mem_of_getElem? (l := wsX11_list_r4) (i := 2) rfl))))), (List.forall_mem_cons.mpr ⟨List.mem_cons_of_mem _ (List.mem_append_left _ (List.mem_append_right _ (List.mem_append_right _ (List.mem_append_right _ (List.mem_of_getElem? (l := wsX11_list_r4) (i := 3) rfl))))), (List.forall_mem_cons.mpr ⟨List.mem_cons_of_mem _ (List.mem_append_left _ (List.mem_append_right _ (List.mem_append_right _ (List.mem_append_right _ (List.mem_of_getElem? (l := wsX11_list_r4) (i := 4) rfl))))), (List.forall_mem_cons.mpr ⟨List.mem_cons_of_mem _ (List.mem_append_left _ (List.mem_append_right _ (List.mem_append_right _ (List.mem_append_right _ (List.mem_of_getElem? (l := wsX11_list_r4) (i := 5) rfl))))), (List.forall_mem_cons.mpr ⟨List.mem_cons_of_mem _ (List.mem_append_left _ (List.mem_append_right _ (List.mem_append_right _ (List.mem_append_right _ (List.mem_of_getElem? (l := wsX11_list_r4) (i := 6) rfl))))), (List.forall_mem_cons.mpr ⟨List.mem_cons_of_mem _ (List.mem_append_left _ (List.mem_append_right _ (List.mem_append_right _ (List.mem_append_right _ (List.mem_of_getElem? (l := wsX11_list_r4) (i := 7) rfl))))), (List.forall_mem_cons.mpr ⟨List.mem_cons_of_mem _ (List.mem_append_left _ (List.mem_append_right _ (List.mem_append_right _ (List.mem_append_right _ (List.mem_of_getElem? (l := wsX11_list_r4) (i := 8) rfl))))), (List.forall_mem_cons.mpr ⟨List.mem_cons_of_mem _ (List.mem_append_left _ (List.mem_append_right _ (List.mem_append_right _ (List.mem_append_right _ (List.mem_of_getElem? (l := wsX11_list_r4) (i := 9) rfl))))), (fun _ h => nomatch h)⟩)⟩)⟩)⟩)⟩)⟩)⟩)⟩)⟩)⟩)⟩)⟩)⟩)⟩)⟩)⟩)⟩)⟩)⟩)⟩)⟩)⟩)⟩)⟩), (List.forall_mem_cons.mpr ⟨List.mem_cons_of_mem _ (List.mem_append_left _ (List.mem_append_right _ (List.mem_append_right _ (List.mem_append_right _ (List.mem_of_getElem? (l := wsX11_list_r4) (i := 10) rfl))))), (List.forall_mem_cons.mpr ⟨List.mem_cons_of_mem _ (List.mem_append_left _ (List.mem_append_right _ (List.mem_append_right _ (List.mem_append_right _ (List.mem_of_getElem? (l := wsX11_list_r4) (i := 11) rfl))))), (List.forall_mem_cons.mpr ⟨List.mem_cons_of_mem _ (List.mem_append_left _ (List.mem_append_right _ (List.mem_append_right _ (List.mem_append_right _ (List.mem_of_getElem? (l := wsX11_list_r4) (i := 12) rfl))))), (List.forall_mem_cons.mpr ⟨List.mem_cons_of_mem _ (List.mem_append_left _ (List.mem_append_right _ (List.mem_append_right _ (List.mem_append_right _ (List.mem_of_getElem? (l := wsX11_list_r4) (i := 13) rfl))))), (List.forall_mem_cons.mpr ⟨List.mem_cons_of_mem _ (List.mem_append_left _ (List.mem_append_right _ (List.mem_append_right _ (List.mem_append_right _ (List.mem_of_getElem? (l := wsX11_list_r4) (i := 14) rfl))))), (List.forall_mem_cons.mpr ⟨List.mem_cons_of_mem _ (List.mem_append_left _ (List.mem_append_right _ (List.mem_append_right _ (List.mem_append_right _ (List.mem_of_getElem? (l := wsX11_list_r4) (i := 15) rfl))))), (fun _ h => nomatch h)⟩)⟩)⟩)⟩)⟩)⟩)⟩), (fun _ h => List.mem_cons_of_mem _ (List.mem_append_right _ (h)))⟩)⟩) (by decide +kernel)
set_option maxRecDepth 20000 in
theorem gX11_list_X11_stateOf : GoodIn wsX11_list (wsV RX11 89 RX11 yX11_stateOf wsX11_stateOf) := goodIn_app (goodIn_of _ (by decide +kernel)) ggX11_list_X11_stateOf
set_option maxRecDepth 20000 in
theorem ggX11_list_X11_timeOf : GoodIn wsX11_list wsX11_timeOf := goodIn_sub (List.forall_mem_cons.mpr ⟨List.mem_cons_of_mem _ (List.mem_append_left _ (List.mem_append_right _ (List.mem_append_right _ (List.mem_append_right _ (List.mem_of_getElem? (l := wsX11_list_r4) (i := 19) rfl))))), (List.forall_mem_append.mpr ⟨(List.forall_mem_append.mpr ⟨(List.forall_mem_cons.mpr ⟨List.mem_cons_of_mem _ (List.mem_append_left _ (List.mem_append_right _ (List.mem_append_right _ (List.mem_append_left _ (List.mem_of_getElem? (l := wsX11_list_r3) (i := 3) rfl))))), (List.forall_mem_cons.mpr ⟨List.mem_cons_of_mem _ (List.mem_append_left _ (List.mem_append_right _ (List.mem_append_right _ (List.mem_append_left _ (List.mem_of_getElem? (l := wsX11_list_r3) (i := 4) rfl))))), (List.forall_mem_cons.mpr ⟨List.mem_cons_of_mem _ (List.mem_append_left _ (List.mem_append_right _ (List.mem_append_right _ (List.mem_append_left _ (List.mem_of_getElem? (l := wsX11_list_r3) (i := 5) rfl))))), (List.forall_mem_cons.mpr ⟨List.mem_cons_of_mem _ (List.mem_append_left _ (List.mem_append_left _ (List.mem_of_getElem? (l := wsX11_list_r1) (i := 8) rfl))), (List.forall_mem_cons.mpr ⟨List.mem_cons_of_mem _ (List.mem_append_left _ (List.mem_append_right _ (List.mem_append_right _ (List.mem_append_left _ (List.mem_of_getElem? (l := wsX11_list_r3) (i := 6) rfl))))), (List.forall_mem_cons.mpr ⟨List.mem_cons_of_mem _ (List.mem_append_left _ (List.mem_append_right _ (List.mem_append_right _ (List.mem_append_left _ (List.mem_of_getElem? (l := wsX11_list_r3) (i := 7) rfl))))), (List.forall_mem_cons.mpr ⟨List.mem_cons_of_mem _ (List.mem_append_left _ (List.mem_append_right _ (List.mem_append_right _ (List.mem_append_right _ (List.mem_of_getElem? (l := wsX11_list_r4) (i := 12) rfl))))), (List.forall_mem_cons.mpr ⟨List.mem_cons_of_mem _ (List.mem_append_left _ (List.mem_append_right _ (List.mem_append_right _ (List.mem_append_right _ (List.mem_of_getElem? (l := wsX11_list_r4) (i := 13) rfl))))), (List.forall_mem_cons.mpr ⟨List.mem_cons_of_mem _ (List.mem_append_left _ (List.mem_append_right _ (List.mem_append_right _ (List.mem_append_right _ (List.mem_of_getElem? (l := wsX11_list_r4) (i := 14) rfl))))), (List.forall_mem_cons.mpr ⟨List.mem_cons_of_mem _ (List.mem_append_left _ (List.mem_append_right _ (List.mem_append_right _ (List.mem_append_right _ (List.mem_of_getElem? (l := wsX11_list_r4) (i := 15) rfl))))), (List.forall_mem_cons.mpr ⟨List.mem_cons_of_mem _ (List.mem_append_left _ (List.mem_append_right _ (List.mem_append_right _ (List.mem_append_right _ (List.mem_of_getElem? (l := wsX11_list_r4) (i := 8) rfl))))), (List.forall_mem_cons.mpr ⟨List.mem_cons_of_mem _ (List.mem_append_left _ (List.mem_append_right _ (List.mem_append_right _ (List.mem_append_right _ (List.mem_of_getElem? (l := wsX11_list_r4) (i := 9) rfl))))), (List.forall_mem_cons.mpr ⟨List.mem_cons_of_mem _ (List.mem_append_left _ (List.mem_append_right _ (List.mem_append_right _ (List.mem_append_right _ (List.mem_of_getElem? (l := wsX11_list_r4) (i := 10) rfl))))), (List.forall_mem_cons.mpr ⟨List.mem_cons_of_mem _ (List.mem_append_left _ (List.mem_append_right _ (List.mem_append_right _ (List.mem_append_right _ (List.mem_of_getElem? (l := wsX11_list_r4) (i := 11) rfl))))), (List.forall_mem_cons.mpr ⟨List.mem_cons_of_mem _ (List.mem_append_left _ (List.mem_append_right _ (List.mem_append_right _ (List.mem_append_right _ (List.mem_of_getElem? (l := wsX11_list_r4) (i := 4) rfl))))), (List.forall_mem_cons.mpr ⟨List.mem_cons_of_mem _ (List.mem_append_left _ (List.mem_append_right _ (List.mem_append_right _ (List.mem_append_right _ (List.mem_of_getElem? (l := wsX11_list_r4) (i := 5) rfl))))), (List.forall_mem_cons.mpr ⟨List.mem_cons_of_mem _ (List.mem_append_left _ (List.mem_append_right _ (List.mem_append_right _ (List.mem_append_right _ (List.mem_of_getElem? (l := wsX11_list_r4) (i := 6) rfl))))), (List.forall_mem_cons.mpr ⟨List.mem_cons_of_mem _ (List.mem_append_left _ (List.mem_append_right _ (List.mem_append_right _ (List.mem_append_right _ (List.mem_of_getElem? (l := wsX11_list_r4) (i := 7) rfl))))), (List.forall_mem_cons.mpr ⟨List.mem_cons_of_mem _ (List.mem_append_left _ (List.mem_append_right _ (List.mem_append_right _ (List.mem_append_right _ (List.mem_of_getElem? (l := wsX11_list_r4) (i := 20) rfl))))), (List.forall_mem_cons.mpr ⟨List.mem_cons_of_mem _ (List.mem_append_left _ (List.mem_append_right _ (List.mem_append_right _ (List.mem_append_right _ (List.mem_of_getElem? (l := wsX11_list_r4) (i := 21) rfl))))), (List.forall_mem_cons.mpr ⟨List.mem_cons_of_mem _ (List.mem_append_left _ (List.mem_append_right _ (List.mem_append_right _ (List.mem_append_right _ (List.mem_of_getElem? (l := wsX11_list_r4) (i := 22) rfl))))), (List.forall_mem_cons.mpr ⟨List.mem_cons_of_mem _ (List.mem_append_left _ (List.mem_append_right _ (List.mem_append_right _ (List.mem_append_right _ (List.mem_of_getElem? (l := wsX11_list_r4) (i := 23) rfl))))), (List.forall_mem_cons.mpr ⟨List.mem_cons_of_mem _ (List.mem_append_left _ (List.mem_append_right _ (List.mem_append_right _ (List.mem_append_left _ (List.mem_of_getElem? (l := wsX11_list_r3) (i := 12) rfl))))), (List.forall_mem_cons.mpr ⟨List.mem_cons_of_mem _ (List.mem_append_left _ (List.mem_append_right _ (List.mem_append_right _ (List.mem_append_left _ (List.mem_of_getElem? (l := wsX11_list_r3) (i := 13) rfl))))), (fun _ h => nomatch h)⟩)⟩)⟩)⟩)⟩)⟩)⟩)⟩)⟩)⟩)⟩)⟩)⟩)⟩)⟩)⟩)⟩)⟩)⟩)⟩)⟩)⟩)⟩)⟩), (List.forall_mem_cons.mpr ⟨List.mem_cons_of_mem _ (List.mem_append_left _ (List.mem_append_right _ (List.mem_append_right _ (List.mem_append_left _ (List.mem_of_getElem? (l := wsX11_list_r3) (i := 14) rfl))))), (List.forall_mem_cons.mpr ⟨List.mem_cons_of_mem _ (List.mem_append_left _ (List.mem_append_right _ (List.mem_append_right _ (List.mem_append_left _ (List.mem_of_getElem? (l := wsX11_list_r3) (i := 15) rfl))))), (List.forall_mem_cons.mpr ⟨List.mem_cons_of_mem _ (List.mem_append_left _ (List.mem_append_right _ (List.mem_append_right _ (List.mem_append_left _ (List.mem_of_getElem? (l := wsX11_list_r3) (i := 16) rfl))))), (List.forall_mem_cons.mpr ⟨List.mem_cons_of_mem _ (List.mem_append_left _ (List.mem_append_right _ (List.mem_append_right _ (List.mem_append_left _ (List.mem_of_getElem? (l := wsX11_list_r3) (i := 17) rfl))))), (List.forall_mem_cons.mpr ⟨List.mem_cons_of_mem _ (List.mem_append_left _ (List.mem_append_right _ (List.mem_append_right _ (List.mem_append_left _ (List.mem_of_getElem? (l := wsX11_list_r3) (i := 18) rfl))))), (List.forall_mem_cons.mpr ⟨List.mem_cons_of_mem _ (List.mem_append_left _ (List.mem_append_right _ (List.mem_append_right _ (List.mem_append_left _ (List.mem_of_getElem? (l := wsX11_list_r3) (i := 19) rfl))))), (List.forall_mem_cons.mpr ⟨List.mem_cons_of_mem _ (List.mem_append_left _ (List.mem_append_right _ (List.mem_append_right _ (List.mem_append_left _ (List.mem_of_getElem? (l := wsX11_list_r3) (i := 20) rfl))))), (List.forall_mem_cons.mpr ⟨List.mem_cons_of_mem _ (List.mem_append_left _ (List.mem_append_right _ (List.mem_append_right _ (List.mem_append_left _ (List.mem_of_getElem? (l := wsX11_list_r3) (i := 21) rfl))))), (List.forall_mem_cons.mpr ⟨List.mem_cons_of_mem _ (List.mem_append_left _ (List.mem_append_right _ (List.mem_append_right _ (List.mem_append_left _ (List.mem_of_getElem? (l := wsX11_list_r3) (i := 22) rfl))))), (List.forall_mem_cons.mpr ⟨List.mem_cons_of_mem _ (List.mem_append_left _ (List.mem_append_right _ (List.mem_append_right _ (List.mem_append_left _ (List.mem_of_getElem? (l := wsX11_list_r3) (i := 23) rfl))))), (List.forall_mem_cons.mpr ⟨List.mem_cons_of_mem _ (List.mem_append_left _ (List.mem_append_right _ (List.mem_append_right _ (List.mem_append_right _ (List.mem_of_getElem? (l := wsX11_list_r4) (i := 0) rfl))))), (List.forall_mem_cons.mpr ⟨List.mem_cons_of_mem _ (List.mem_append_left _ (List.mem_append_right _ (List.mem_append_right _ (List.mem_append_right _ (List.mem_of_getElem? (l := wsX11_list_r4) (i := 1) rfl))))), (List.forall_mem_cons.mpr ⟨List.mem_cons_of_mem _ (List.mem_append_left _ (List.mem_append_right _ (List.mem_append_right _ (List.mem_append_right _ (List.mem_of_getElem? (l := wsX11_list_r4) (i := 2) rfl))))), (List.forall_mem_cons.mpr ⟨List.mem_cons_of_mem _ (List.mem_append_left _ (List.mem_append_right _ (List.mem_append_right _ (List.mem_append_right _ (List.mem_of_getElem? (l := wsX11_list_r4) (i := 3) rfl))))), (fun _ h => nomatch h)⟩)⟩)⟩)⟩)⟩)⟩)⟩)⟩)⟩)⟩)⟩)⟩)⟩)⟩)⟩), (fun _ h => List.mem_cons_of_mem _ (List.mem_append_right _ (h)))⟩)⟩) (by decide +kernel)
set_option maxRecDepth 20000 in
theorem gX11_list_X11_timeOf : GoodIn wsX11_list (wsV RX11 98 RX11 yX11_timeOf wsX11_timeOf) := goodIn_app (goodIn_of _ (by decide +kernel)) ggX11_list_X11_timeOf
theorem kX11_list_0 : (.fieldLink RX11 151 "RunDeskModel" "fault" "I" : Cond) ∈ wsX11_list := List.mem_of_getElem? (i := 1) (by decide +kernel)
theorem qX11_list_X11 : ∀ w ∈ wsX110, w ∈ wsX11_list := fun _ h => List.mem_cons_of_mem _ (List.mem_append_right _ (h))
theorem kX11_list_2 : (.fieldLink RX11 198 "RunDeskModel" "listed" "I" : Cond) ∈ wsX11_list := List.mem_of_getElem? (i := 2) (by decide +kernel)
theorem kX11_list_3 : (.fieldLink RX11 188 "RunDeskModel" "byGun" "Z" : Cond) ∈ wsX11_list := List.mem_of_getElem? (i := 3) (by decide +kernel)
theorem kX11_list_4 : (.fieldLink RX11 26 "RunDeskModel" "times" "[I" : Cond) ∈ wsX11_list := List.mem_of_getElem? (i := 4) (by decide +kernel)
theorem kX11_list_5 : (.fieldLink RX11 23 "RunDeskModel" "order" "[I" : Cond) ∈ wsX11_list := List.mem_of_getElem? (i := 5) (by decide +kernel)
set_option maxHeartbeats 4000000 in
set_option maxRecDepth 100000 in
theorem mX11_list (l : Launch) (D : va_G) (cB cI cZ : ClassId) (a_t : Nat) (a_t_now : Nat) (a_t_kept : Nat) (a_t_text : Nat) (a_t_passing : Nat) (a_t_order : Nat) (a_t_times : Nat) (t_thrown : Int32) (t_isKept : Int32) (t_length : Int32) (t_at : Int32) (t_fault : Int32) (t_open : Int32) (t_asked : Int32) (t_byGun : Int32) (t_prizeMost : Int32) (t_listed : Int32) (t_now : Nat → Int32) (t_order : Nat → Int32) (t_text : Nat → Int32) (t_times : Nat → Int32) (sz : Nat) (N : Nat) (b0 : Bool) (t_asked' : Int32) (t_at' : Int32) (t_byGun' : Int32) (t_fault' : Int32) (t_listed' : Int32) (t_open' : Int32) (t_prizeMost' : Int32) (t_order' : Nat → Int32) (t_times' : Nat → Int32) (h : fX11_list N t_asked t_at t_byGun t_fault t_length t_listed t_open t_prizeMost t_now t_order t_text t_times = some (b0, t_asked', t_at', t_byGun', t_fault', t_listed', t_open', t_prizeMost', t_order', t_times')) : Met l yX11_list wsX11_list ({ frames := 30, cells := 0, slots := 0, locals := 686 } : Room) (va_Pc [.ref a_t] (zPre D (zT cB cI cZ) [(a_t, .inr (11, [.int t_thrown, .ref a_t_now, .ref a_t_kept, .int t_isKept, .ref a_t_text, .int t_length, .ref a_t_passing, .int t_at, .int t_fault, .int t_open, .int t_asked, .int t_byGun, .int t_prizeMost, .ref a_t_order, .ref a_t_times, .int t_listed])), (a_t_now, .inl (cI, 1562, .inl t_now)), (a_t_order, .inl (cI, 60, .inl t_order)), (a_t_text, .inl (cB, 200, .inl t_text)), (a_t_times, .inl (cI, 60, .inl t_times))] sz)) (zQi (zb b0) D (zT cB cI cZ) [(a_t, .inr (11, [.int t_thrown, .ref a_t_now, .ref a_t_kept, .int t_isKept, .ref a_t_text, .int t_length, .ref a_t_passing, .int t_at', .int t_fault', .int t_open', .int t_asked', .int t_byGun', .int t_prizeMost', .ref a_t_order, .ref a_t_times, .int t_listed'])), (a_t_now, .inl (cI, 1562, .inl t_now)), (a_t_order, .inl (cI, 60, .inl t_order')), (a_t_text, .inl (cB, 200, .inl t_text)), (a_t_times, .inl (cI, 60, .inl t_times'))] (va_A [(a_t, .inr (11, [.int t_thrown, .ref a_t_now, .ref a_t_kept, .int t_isKept, .ref a_t_text, .int t_length, .ref a_t_passing, .int t_at, .int t_fault, .int t_open, .int t_asked, .int t_byGun, .int t_prizeMost, .ref a_t_order, .ref a_t_times, .int t_listed])), (a_t_now, .inl (cI, 1562, .inl t_now)), (a_t_order, .inl (cI, 60, .inl t_order)), (a_t_text, .inl (cB, 200, .inl t_text)), (a_t_times, .inl (cI, 60, .inl t_times))] sz)) 0 0 (va_A [(a_t, .inr (11, [.int t_thrown, .ref a_t_now, .ref a_t_kept, .int t_isKept, .ref a_t_text, .int t_length, .ref a_t_passing, .int t_at, .int t_fault, .int t_open, .int t_asked, .int t_byGun, .int t_prizeMost, .ref a_t_order, .ref a_t_times, .int t_listed])), (a_t_now, .inl (cI, 1562, .inl t_now)), (a_t_order, .inl (cI, 60, .inl t_order)), (a_t_text, .inl (cB, 200, .inl t_text)), (a_t_times, .inl (cI, 60, .inl t_times))] sz) := by
  refine Met.ofW (cc := cX11_list) (maxL := 5) (ret := (some .boolean)) (by decide) rfl ?_
  intro p e s m args below meth c s₁ B hml hv
  obtain ⟨rfl, hsz, hP, hK, hN, hZ, hD0⟩ := hv
  have hx := B.exec
  have hb := B.bytes
  have hr := B.returns
  have hts := atoms_spec (ws := wsX11_list) B.pre
  have hown : s.vm.findClass RX11 = some m.cls := findClass_of_methodNamed B.named
  have hlocks := B.notSynchronized
  subst hsz
  have hD := hD0.self (sz := s.heap.size)
  generalize hAe : va_A [(a_t, .inr (11, [.int t_thrown, .ref a_t_now, .ref a_t_kept, .int t_isKept, .ref a_t_text, .int t_length, .ref a_t_passing, .int t_at, .int t_fault, .int t_open, .int t_asked, .int t_byGun, .int t_prizeMost, .ref a_t_order, .ref a_t_times, .int t_listed])), (a_t_now, .inl (cI, 1562, .inl t_now)), (a_t_order, .inl (cI, 60, .inl t_order)), (a_t_text, .inl (cB, 200, .inl t_text)), (a_t_times, .inl (cI, 60, .inl t_times))] s.heap.size = A at hD hZ ⊢
  have hA : ∀ q : Nat, s.heap.size ≤ q → A q := fun q h => by rw [← hAe]; exact Or.inr h
  have hS : va_S A s.heap s.heap [] := va_S.rf
  have hl := lv_entry ([.ref a_t]) (n := 5) (Nat.le_of_ble_eq_true rfl)
  rw [lg_entry_eq]
  generalize (lg_sl ([.ref a_t]) ++ List.replicate (5 - (lg_sl ([.ref a_t])).length) Slot.unset).toArray = ls at hl ⊢
  have hl : lv_has ls 5 [(0, .ref a_t)] := hl
  unfold fX11_list at h
  refine lv_aload_n hx hb dX11_list_0 rfl (lv_at hl 0 rfl) ?_
  refine lv_iconst (v := (-1 : Int32)) hx hb dX11_list_1 rfl ?_
  obtain ⟨⟨b1, t_asked_r2, t_at_r3, t_byGun_r4, t_fault_r5, t_open_r6, t_prizeMost_r7⟩, e8, h⟩ := zz_b h
  dsimp only at h
  refine zVi (As := [.int (-1 : Int32)]) (rest := []) (C := RX11) (wr := [(a_t_order, .inl (cI, 60, .inl t_order)), (a_t_times, .inl (cI, 60, .inl t_times))]) [0, 1, 3] [2, 4] 0 ⟨hx, hb, hml, hown, hts⟩ (mX11_read l D cB cI cZ a_t a_t_now a_t_kept a_t_text a_t_passing a_t_order a_t_times t_thrown t_isKept t_length t_at t_fault t_open t_asked t_byGun t_prizeMost t_listed t_now t_text s.heap.size (-1 : Int32) N b1 t_asked_r2 t_at_r3 t_byGun_r4 t_fault_r5 t_open_r6 t_prizeMost_r7 e8) (cwV 1 hts gX11_list_X11_read rfl rfl rfl (by decide +kernel) ⟨Nat.le_of_ble_eq_true rfl, Nat.le_of_ble_eq_true rfl⟩) hK hN hZ hP hD hS hA rfl rfl rfl rfl rfl rfl rfl rfl hl.1 rfl (lv_room (Nat.le_of_ble_eq_true rfl)) dX11_list_2 ⟨Nat.le_of_ble_eq_true rfl, Nat.le_of_ble_eq_true rfl⟩ (fun H locs hP hD hS => ?_)
  have hP : va_P D vwCl [(a_t_order, .inl (cI, 60, .inl t_order)), (a_t_times, .inl (cI, 60, .inl t_times)), (a_t, .inr (11, [.int t_thrown, .ref a_t_now, .ref a_t_kept, .int t_isKept, .ref a_t_text, .int t_length, .ref a_t_passing, .int t_at_r3, .int t_fault_r5, .int t_open_r6, .int t_asked_r2, .int t_byGun_r4, .int t_prizeMost_r7, .ref a_t_order, .ref a_t_times, .int t_listed])), (a_t_now, .inl (cI, 1562, .inl t_now)), (a_t_text, .inl (cB, 200, .inl t_text))] H := hP
  have hD : va_D A [(a_t_order, .inl (cI, 60, .inl t_order)), (a_t_times, .inl (cI, 60, .inl t_times)), (a_t, .inr (11, [.int t_thrown, .ref a_t_now, .ref a_t_kept, .int t_isKept, .ref a_t_text, .int t_length, .ref a_t_passing, .int t_at_r3, .int t_fault_r5, .int t_open_r6, .int t_asked_r2, .int t_byGun_r4, .int t_prizeMost_r7, .ref a_t_order, .ref a_t_times, .int t_listed])), (a_t_now, .inl (cI, 1562, .inl t_now)), (a_t_text, .inl (cB, 200, .inl t_text))] := hD
  refine lv_istore_n (lv' := [(1, .int (zb b1)), (0, .ref a_t)]) hx hb dX11_list_5 rfl hl (by decide) rfl (fun ls hl => ?_)
  refine lv_aload_n hx hb dX11_list_6 rfl (lv_at hl 1 rfl) ?_
  refine va_get (D := D) (ci := 11) (C := RX11) (T := TX11) (N := 16) hx hb hts qX11_list_X11 hown hK hP 2 rfl rfl 8 (by decide) (hts _ kX11_list_0) (fun _ h9 => h9) rfl dX11_list_7 ?_
  refine lv_iconst (v := (-1 : Int32)) hx hb dX11_list_10 rfl ?_
  refine lv_icmp_eq (tgt := 16) hx hb dX11_list_11 (by decide) (fun c9 => ?_) (fun c9 => ?_)
  · have h := zz_t h c9
    refine lv_aload_n hx hb dX11_list_16 rfl (lv_at hl 1 rfl) ?_
    refine lv_iconst (v := (nI 0)) hx hb dX11_list_17 rfl ?_
    refine va_put (D := D) (ci := 11) (ty := .int) (C := RX11) (T := TX11) (N := 16) hx hb hts qX11_list_X11 tyX11 tyX11_ok nmX11 hown hK hP hD hS 2 rfl rfl 15 (by decide) (hts _ kX11_list_2) (fun _ h9 => h9) rfl (by decide +kernel) rfl (by first | rfl | exact zz_fit) (Nat.le_of_ble_eq_true rfl) dX11_list_18 (fun H locs hP hD hS => ?_)
    have hP : va_P D vwCl [(a_t_order, .inl (cI, 60, .inl t_order)), (a_t_times, .inl (cI, 60, .inl t_times)), (a_t, .inr (11, [.int t_thrown, .ref a_t_now, .ref a_t_kept, .int t_isKept, .ref a_t_text, .int t_length, .ref a_t_passing, .int t_at_r3, .int t_fault_r5, .int t_open_r6, .int t_asked_r2, .int t_byGun_r4, .int t_prizeMost_r7, .ref a_t_order, .ref a_t_times, .int (nI 0)])), (a_t_now, .inl (cI, 1562, .inl t_now)), (a_t_text, .inl (cB, 200, .inl t_text))] H := hP
    have hD : va_D A [(a_t_order, .inl (cI, 60, .inl t_order)), (a_t_times, .inl (cI, 60, .inl t_times)), (a_t, .inr (11, [.int t_thrown, .ref a_t_now, .ref a_t_kept, .int t_isKept, .ref a_t_text, .int t_length, .ref a_t_passing, .int t_at_r3, .int t_fault_r5, .int t_open_r6, .int t_asked_r2, .int t_byGun_r4, .int t_prizeMost_r7, .ref a_t_order, .ref a_t_times, .int (nI 0)])), (a_t_now, .inl (cI, 1562, .inl t_now)), (a_t_text, .inl (cB, 200, .inl t_text))] := hD
    refine lv_iconst (v := (nI 0)) hx hb dX11_list_21 rfl ?_
    refine lv_istore_n (lv' := [(2, .int (nI 0)), (1, .int (zb b1)), (0, .ref a_t)]) hx hb dX11_list_22 rfl hl (by decide) rfl (fun ls hl => ?_)
    have X23_168 : ∀ (v2_23 : Int32) (t_at_l23 : Int32) (t_fault_l23 : Int32) (t_open_l23 : Int32) (t_asked_l23 : Int32) (t_byGun_l23 : Int32) (t_prizeMost_l23 : Int32) (t_listed_l23 : Int32) (t_order_l23 : Nat → Int32) (t_times_l23 : Nat → Int32) (H : Heap) (locs : List Loc) (ls : Array Slot), some (true, t_asked_l23, t_at_l23, t_byGun_l23, t_fault_l23, t_listed_l23, t_open_l23, t_prizeMost_l23, t_order_l23, t_times_l23) = some (b0, t_asked', t_at', t_byGun', t_fault', t_listed', t_open', t_prizeMost', t_order', t_times') → va_P D vwCl [(a_t_order, .inl (cI, 60, .inl t_order_l23)), (a_t_times, .inl (cI, 60, .inl t_times_l23)), (a_t, .inr (11, [.int t_thrown, .ref a_t_now, .ref a_t_kept, .int t_isKept, .ref a_t_text, .int t_length, .ref a_t_passing, .int t_at_l23, .int t_fault_l23, .int t_open_l23, .int t_asked_l23, .int t_byGun_l23, .int t_prizeMost_l23, .ref a_t_order, .ref a_t_times, .int t_listed_l23])), (a_t_now, .inl (cI, 1562, .inl t_now)), (a_t_text, .inl (cB, 200, .inl t_text))] H → va_D A [(a_t_order, .inl (cI, 60, .inl t_order_l23)), (a_t_times, .inl (cI, 60, .inl t_times_l23)), (a_t, .inr (11, [.int t_thrown, .ref a_t_now, .ref a_t_kept, .int t_isKept, .ref a_t_text, .int t_length, .ref a_t_passing, .int t_at_l23, .int t_fault_l23, .int t_open_l23, .int t_asked_l23, .int t_byGun_l23, .int t_prizeMost_l23, .ref a_t_order, .ref a_t_times, .int t_listed_l23])), (a_t_now, .inl (cI, 1562, .inl t_now)), (a_t_text, .inl (cB, 200, .inl t_text))] → va_S A s.heap H locs → lv_has ls 5 [(2, .int v2_23), (1, .int (zb b1)), (0, .ref a_t)] → W p l e (headSpec wsX11_list ({ frames := 30, cells := 0, slots := 0, locals := 686 } : Room)).room s m #[Value.ref a_t] below meth c H locs 0 0 (MQ below (zQi (zb b0) D (zT cB cI cZ) [(a_t, .inr (11, [.int t_thrown, .ref a_t_now, .ref a_t_kept, .int t_isKept, .ref a_t_text, .int t_length, .ref a_t_passing, .int t_at', .int t_fault', .int t_open', .int t_asked', .int t_byGun', .int t_prizeMost', .ref a_t_order, .ref a_t_times, .int t_listed'])), (a_t_now, .inl (cI, 1562, .inl t_now)), (a_t_order, .inl (cI, 60, .inl t_order')), (a_t_text, .inl (cB, 200, .inl t_text)), (a_t_times, .inl (cI, 60, .inl t_times'))] A) #[Value.ref a_t] s 0 0 A) (F0 m 168 ls []) := by
      intro v2_23 t_at_l23 t_fault_l23 t_open_l23 t_asked_l23 t_byGun_l23 t_prizeMost_l23 t_listed_l23 t_order_l23 t_times_l23 H locs ls h hP hD hS hl
      refine lv_iconst (v := (nI 1)) hx hb dX11_list_168 rfl ?_
      obtain ⟨j0_, g_⟩ := Prod.mk.inj (Option.some.inj h)
      obtain ⟨j1_, g_⟩ := Prod.mk.inj g_
      obtain ⟨j2_, g_⟩ := Prod.mk.inj g_
      obtain ⟨j3_, g_⟩ := Prod.mk.inj g_
      obtain ⟨j4_, g_⟩ := Prod.mk.inj g_
      obtain ⟨j5_, g_⟩ := Prod.mk.inj g_
      obtain ⟨j6_, g_⟩ := Prod.mk.inj g_
      obtain ⟨j7_, g_⟩ := Prod.mk.inj g_
      obtain ⟨j8_, g_⟩ := Prod.mk.inj g_
      have j9_ := g_
      subst j0_
      subst j1_
      subst j2_
      subst j3_
      subst j4_
      subst j5_
      subst j6_
      subst j7_
      subst j8_
      subst j9_
      exact W.zret (v := (nI 1)) hx hb hr rfl (fun t ht hW => ⟨⟨_, (), rfl, rfl, zPost.of hP hD hK ht hW [2, 3, 0, 4, 1] rfl rfl rfl⟩, hS.F ht⟩) hS.2.2 dX11_list_169
    have L23 : ∀ (n : Nat) (v2_23 : Int32) (t_at_l23 : Int32) (t_fault_l23 : Int32) (t_open_l23 : Int32) (t_asked_l23 : Int32) (t_byGun_l23 : Int32) (t_prizeMost_l23 : Int32) (t_listed_l23 : Int32) (t_order_l23 : Nat → Int32) (t_times_l23 : Nat → Int32) (H : Heap) (locs : List Loc) (ls : Array Slot), fX11_list_L23 N t_length t_now t_text (fun (v2_23 : Int32) (t_at_l23 : Int32) (t_fault_l23 : Int32) (t_open_l23 : Int32) (t_asked_l23 : Int32) (t_byGun_l23 : Int32) (t_prizeMost_l23 : Int32) (t_listed_l23 : Int32) (t_order_l23 : Nat → Int32) (t_times_l23 : Nat → Int32) => some (true, t_asked_l23, t_at_l23, t_byGun_l23, t_fault_l23, t_listed_l23, t_open_l23, t_prizeMost_l23, t_order_l23, t_times_l23)) n v2_23 t_at_l23 t_fault_l23 t_open_l23 t_asked_l23 t_byGun_l23 t_prizeMost_l23 t_listed_l23 t_order_l23 t_times_l23 = some (b0, t_asked', t_at', t_byGun', t_fault', t_listed', t_open', t_prizeMost', t_order', t_times') → va_P D vwCl [(a_t_order, .inl (cI, 60, .inl t_order_l23)), (a_t_times, .inl (cI, 60, .inl t_times_l23)), (a_t, .inr (11, [.int t_thrown, .ref a_t_now, .ref a_t_kept, .int t_isKept, .ref a_t_text, .int t_length, .ref a_t_passing, .int t_at_l23, .int t_fault_l23, .int t_open_l23, .int t_asked_l23, .int t_byGun_l23, .int t_prizeMost_l23, .ref a_t_order, .ref a_t_times, .int t_listed_l23])), (a_t_now, .inl (cI, 1562, .inl t_now)), (a_t_text, .inl (cB, 200, .inl t_text))] H → va_D A [(a_t_order, .inl (cI, 60, .inl t_order_l23)), (a_t_times, .inl (cI, 60, .inl t_times_l23)), (a_t, .inr (11, [.int t_thrown, .ref a_t_now, .ref a_t_kept, .int t_isKept, .ref a_t_text, .int t_length, .ref a_t_passing, .int t_at_l23, .int t_fault_l23, .int t_open_l23, .int t_asked_l23, .int t_byGun_l23, .int t_prizeMost_l23, .ref a_t_order, .ref a_t_times, .int t_listed_l23])), (a_t_now, .inl (cI, 1562, .inl t_now)), (a_t_text, .inl (cB, 200, .inl t_text))] → va_S A s.heap H locs → lv_has ls 5 [(2, .int v2_23), (1, .int (zb b1)), (0, .ref a_t)] → W p l e (headSpec wsX11_list ({ frames := 30, cells := 0, slots := 0, locals := 686 } : Room)).room s m #[Value.ref a_t] below meth c H locs 0 0 (MQ below (zQi (zb b0) D (zT cB cI cZ) [(a_t, .inr (11, [.int t_thrown, .ref a_t_now, .ref a_t_kept, .int t_isKept, .ref a_t_text, .int t_length, .ref a_t_passing, .int t_at', .int t_fault', .int t_open', .int t_asked', .int t_byGun', .int t_prizeMost', .ref a_t_order, .ref a_t_times, .int t_listed'])), (a_t_now, .inl (cI, 1562, .inl t_now)), (a_t_order, .inl (cI, 60, .inl t_order')), (a_t_text, .inl (cB, 200, .inl t_text)), (a_t_times, .inl (cI, 60, .inl t_times'))] A) #[Value.ref a_t] s 0 0 A) (F0 m 23 ls []) := by
      intro n
      induction n with
      | zero => intro _ _ _ _ _ _ _ _ _ _ H locs ls h hP hD hS hl; cases h
      | succ n23 ih23 =>
        intro v2_23 t_at_l23 t_fault_l23 t_open_l23 t_asked_l23 t_byGun_l23 t_prizeMost_l23 t_listed_l23 t_order_l23 t_times_l23 H locs ls h hP hD hS hl
        rw [fX11_list_L23.eq_2] at h
        refine lv_iload_n hx hb dX11_list_23 rfl (lv_at hl 0 rfl) ?_
        refine lv_aload_n hx hb dX11_list_24 rfl (lv_at hl 2 rfl) ?_
        obtain ⟨r10, e11, h⟩ := zz_b h
        refine zVi (As := []) (rest := [.int v2_23]) (C := RX11) (wr := [(a_t_order, .inl (cI, 60, .inl t_order_l23)), (a_t_times, .inl (cI, 60, .inl t_times_l23)), (a_t_text, .inl (cB, 200, .inl t_text))]) [2, 3] [0, 1, 4] 0 ⟨hx, hb, hml, hown, hts⟩ (mX11_runners l D cB cI cZ a_t a_t_now a_t_kept a_t_text a_t_passing a_t_order a_t_times t_thrown t_isKept t_length t_at_l23 t_fault_l23 t_open_l23 t_asked_l23 t_byGun_l23 t_prizeMost_l23 t_listed_l23 t_now H.size r10 e11) (cwV 0 hts gX11_list_X11_runners rfl rfl rfl (by decide +kernel) ⟨Nat.le_of_ble_eq_true rfl, Nat.le_of_ble_eq_true rfl⟩) hK hN hZ hP hD hS hA rfl rfl rfl rfl rfl rfl rfl rfl hl.1 rfl (lv_room (Nat.le_of_ble_eq_true rfl)) dX11_list_25 ⟨Nat.le_of_ble_eq_true rfl, Nat.le_of_ble_eq_true rfl⟩ (fun H locs hP hD hS => ?_)
        have hP : va_P D vwCl [(a_t_order, .inl (cI, 60, .inl t_order_l23)), (a_t_times, .inl (cI, 60, .inl t_times_l23)), (a_t_text, .inl (cB, 200, .inl t_text)), (a_t, .inr (11, [.int t_thrown, .ref a_t_now, .ref a_t_kept, .int t_isKept, .ref a_t_text, .int t_length, .ref a_t_passing, .int t_at_l23, .int t_fault_l23, .int t_open_l23, .int t_asked_l23, .int t_byGun_l23, .int t_prizeMost_l23, .ref a_t_order, .ref a_t_times, .int t_listed_l23])), (a_t_now, .inl (cI, 1562, .inl t_now))] H := hP
        have hD : va_D A [(a_t_order, .inl (cI, 60, .inl t_order_l23)), (a_t_times, .inl (cI, 60, .inl t_times_l23)), (a_t_text, .inl (cB, 200, .inl t_text)), (a_t, .inr (11, [.int t_thrown, .ref a_t_now, .ref a_t_kept, .int t_isKept, .ref a_t_text, .int t_length, .ref a_t_passing, .int t_at_l23, .int t_fault_l23, .int t_open_l23, .int t_asked_l23, .int t_byGun_l23, .int t_prizeMost_l23, .ref a_t_order, .ref a_t_times, .int t_listed_l23])), (a_t_now, .inl (cI, 1562, .inl t_now))] := hD
        refine lv_icmp_ge (tgt := 168) hx hb dX11_list_28 (by decide) (fun c12 => ?_) (fun c12 => ?_)
        · have h := zz_t h c12
          exact X23_168 v2_23 t_at_l23 t_fault_l23 t_open_l23 t_asked_l23 t_byGun_l23 t_prizeMost_l23 t_listed_l23 t_order_l23 t_times_l23 _ _ _ h (hP.sub [0, 1, 3, 4, 2] rfl) (hD.sub [0, 1, 3, 4, 2] rfl rfl) hS (lv_sub hl [0, 1, 2] rfl)
        · have h := zz_f h c12
          refine lv_aload_n hx hb dX11_list_31 rfl (lv_at hl 2 rfl) ?_
          refine lv_iload_n hx hb dX11_list_32 rfl (lv_at hl 0 rfl) ?_
          obtain ⟨r13, e14, h⟩ := zz_b h
          refine zVi (As := [.int v2_23]) (rest := []) (C := RX11) (wr := [(a_t_order, .inl (cI, 60, .inl t_order_l23)), (a_t_times, .inl (cI, 60, .inl t_times_l23)), (a_t_text, .inl (cB, 200, .inl t_text))]) [3, 4] [0, 1, 2] 0 ⟨hx, hb, hml, hown, hts⟩ (mX11_stateOf l D cB cI cZ a_t a_t_now a_t_kept a_t_text a_t_passing a_t_order a_t_times t_thrown t_isKept t_length t_at_l23 t_fault_l23 t_open_l23 t_asked_l23 t_byGun_l23 t_prizeMost_l23 t_listed_l23 t_now H.size v2_23 N r13 e14) (cwV 1 hts gX11_list_X11_stateOf rfl rfl rfl (by decide +kernel) ⟨Nat.le_of_ble_eq_true rfl, Nat.le_of_ble_eq_true rfl⟩) hK hN hZ hP hD hS hA rfl rfl rfl rfl rfl rfl rfl rfl hl.1 rfl (lv_room (Nat.le_of_ble_eq_true rfl)) dX11_list_33 ⟨Nat.le_of_ble_eq_true rfl, Nat.le_of_ble_eq_true rfl⟩ (fun H locs hP hD hS => ?_)
          have hP : va_P D vwCl [(a_t_order, .inl (cI, 60, .inl t_order_l23)), (a_t_times, .inl (cI, 60, .inl t_times_l23)), (a_t_text, .inl (cB, 200, .inl t_text)), (a_t, .inr (11, [.int t_thrown, .ref a_t_now, .ref a_t_kept, .int t_isKept, .ref a_t_text, .int t_length, .ref a_t_passing, .int t_at_l23, .int t_fault_l23, .int t_open_l23, .int t_asked_l23, .int t_byGun_l23, .int t_prizeMost_l23, .ref a_t_order, .ref a_t_times, .int t_listed_l23])), (a_t_now, .inl (cI, 1562, .inl t_now))] H := hP
          have hD : va_D A [(a_t_order, .inl (cI, 60, .inl t_order_l23)), (a_t_times, .inl (cI, 60, .inl t_times_l23)), (a_t_text, .inl (cB, 200, .inl t_text)), (a_t, .inr (11, [.int t_thrown, .ref a_t_now, .ref a_t_kept, .int t_isKept, .ref a_t_text, .int t_length, .ref a_t_passing, .int t_at_l23, .int t_fault_l23, .int t_open_l23, .int t_asked_l23, .int t_byGun_l23, .int t_prizeMost_l23, .ref a_t_order, .ref a_t_times, .int t_listed_l23])), (a_t_now, .inl (cI, 1562, .inl t_now))] := hD
          refine lv_iconst (v := (nI 2)) hx hb dX11_list_36 rfl ?_
          refine lv_icmp_ne (tgt := 162) hx hb dX11_list_37 (by decide) (fun c15 => ?_) (fun c15 => ?_)
          · have h := zz_f h c15
            refine lv_iinc (v := (v2_23 + (nI 1))) (lv' := [(2, .int (v2_23 + (nI 1))), (1, .int (zb b1)), (0, .ref a_t)]) hx hb dX11_list_162 hl (k := 0) rfl rfl (by decide) rfl (fun ls hl => ?_)
            refine lv_goto (tgt := 23) hx hb dX11_list_165 (by decide) ?_
            exact ih23 (v2_23 + (nI 1)) t_at_l23 t_fault_l23 t_open_l23 t_asked_l23 t_byGun_l23 t_prizeMost_l23 t_listed_l23 t_order_l23 t_times_l23 _ _ _ h (hP.sub [0, 1, 3, 4, 2] rfl) (hD.sub [0, 1, 3, 4, 2] rfl rfl) hS (lv_sub hl [0, 1, 2] rfl)
          · have h := zz_t h c15
            refine lv_aload_n hx hb dX11_list_40 rfl (lv_at hl 2 rfl) ?_
            refine lv_iload_n hx hb dX11_list_41 rfl (lv_at hl 0 rfl) ?_
            obtain ⟨⟨b16, t_asked_r17, t_at_r18, t_byGun_r19, t_fault_r20, t_open_r21, t_prizeMost_r22⟩, e23, h⟩ := zz_b h
            dsimp only at h
            refine zVi (As := [.int v2_23]) (rest := []) (C := RX11) (wr := [(a_t_order, .inl (cI, 60, .inl t_order_l23)), (a_t_times, .inl (cI, 60, .inl t_times_l23))]) [3, 4, 2] [0, 1] 0 ⟨hx, hb, hml, hown, hts⟩ (mX11_read l D cB cI cZ a_t a_t_now a_t_kept a_t_text a_t_passing a_t_order a_t_times t_thrown t_isKept t_length t_at_l23 t_fault_l23 t_open_l23 t_asked_l23 t_byGun_l23 t_prizeMost_l23 t_listed_l23 t_now t_text H.size v2_23 N b16 t_asked_r17 t_at_r18 t_byGun_r19 t_fault_r20 t_open_r21 t_prizeMost_r22 e23) (cwV 1 hts gX11_list_X11_read rfl rfl rfl (by decide +kernel) ⟨Nat.le_of_ble_eq_true rfl, Nat.le_of_ble_eq_true rfl⟩) hK hN hZ hP hD hS hA rfl rfl rfl rfl rfl rfl rfl rfl hl.1 rfl (lv_room (Nat.le_of_ble_eq_true rfl)) dX11_list_42 ⟨Nat.le_of_ble_eq_true rfl, Nat.le_of_ble_eq_true rfl⟩ (fun H locs hP hD hS => ?_)
            have hP : va_P D vwCl [(a_t_order, .inl (cI, 60, .inl t_order_l23)), (a_t_times, .inl (cI, 60, .inl t_times_l23)), (a_t, .inr (11, [.int t_thrown, .ref a_t_now, .ref a_t_kept, .int t_isKept, .ref a_t_text, .int t_length, .ref a_t_passing, .int t_at_r18, .int t_fault_r20, .int t_open_r21, .int t_asked_r17, .int t_byGun_r19, .int t_prizeMost_r22, .ref a_t_order, .ref a_t_times, .int t_listed_l23])), (a_t_now, .inl (cI, 1562, .inl t_now)), (a_t_text, .inl (cB, 200, .inl t_text))] H := hP
            have hD : va_D A [(a_t_order, .inl (cI, 60, .inl t_order_l23)), (a_t_times, .inl (cI, 60, .inl t_times_l23)), (a_t, .inr (11, [.int t_thrown, .ref a_t_now, .ref a_t_kept, .int t_isKept, .ref a_t_text, .int t_length, .ref a_t_passing, .int t_at_r18, .int t_fault_r20, .int t_open_r21, .int t_asked_r17, .int t_byGun_r19, .int t_prizeMost_r22, .ref a_t_order, .ref a_t_times, .int t_listed_l23])), (a_t_now, .inl (cI, 1562, .inl t_now)), (a_t_text, .inl (cB, 200, .inl t_text))] := hD
            refine lv_if_eq (tgt := 162) hx hb dX11_list_45 (by decide) (fun c24 => ?_) (fun c24 => ?_)
            · have h := zz_t h c24
              refine lv_iinc (v := (v2_23 + (nI 1))) (lv' := [(2, .int (v2_23 + (nI 1))), (1, .int (zb b1)), (0, .ref a_t)]) hx hb dX11_list_162 hl (k := 0) rfl rfl (by decide) rfl (fun ls hl => ?_)
              refine lv_goto (tgt := 23) hx hb dX11_list_165 (by decide) ?_
              exact ih23 (v2_23 + (nI 1)) t_at_r18 t_fault_r20 t_open_r21 t_asked_r17 t_byGun_r19 t_prizeMost_r22 t_listed_l23 t_order_l23 t_times_l23 _ _ _ h (hP.sub [0, 1, 2, 3, 4] rfl) (hD.sub [0, 1, 2, 3, 4] rfl rfl) hS (lv_sub hl [0, 1, 2] rfl)
            · have h := zz_f h c24
              refine lv_aload_n hx hb dX11_list_48 rfl (lv_at hl 2 rfl) ?_
              refine lv_iload_n hx hb dX11_list_49 rfl (lv_at hl 0 rfl) ?_
              refine lv_aload_n hx hb dX11_list_50 rfl (lv_at hl 2 rfl) ?_
              refine va_get (D := D) (ci := 11) (C := RX11) (T := TX11) (N := 16) hx hb hts qX11_list_X11 hown hK hP 2 rfl rfl 11 (by decide) (hts _ kX11_list_3) (fun _ h9 => h9) rfl dX11_list_51 ?_
              obtain ⟨r25, e26, h⟩ := zz_b h
              refine zVi (As := [.int v2_23, .int t_byGun_r19]) (rest := []) (C := RX11) (wr := [(a_t_order, .inl (cI, 60, .inl t_order_l23)), (a_t_times, .inl (cI, 60, .inl t_times_l23)), (a_t_text, .inl (cB, 200, .inl t_text))]) [2, 3] [0, 1, 4] 0 ⟨hx, hb, hml, hown, hts⟩ (mX11_timeOf l D cB cI cZ a_t a_t_now a_t_kept a_t_text a_t_passing a_t_order a_t_times t_thrown t_isKept t_length t_at_r18 t_fault_r20 t_open_r21 t_asked_r17 t_byGun_r19 t_prizeMost_r22 t_listed_l23 t_now H.size v2_23 t_byGun_r19 N r25 e26) (cwV 2 hts gX11_list_X11_timeOf rfl rfl rfl (by decide +kernel) ⟨Nat.le_of_ble_eq_true rfl, Nat.le_of_ble_eq_true rfl⟩) hK hN hZ hP hD hS hA rfl rfl rfl rfl rfl rfl rfl rfl hl.1 rfl (lv_room (Nat.le_of_ble_eq_true rfl)) dX11_list_54 ⟨Nat.le_of_ble_eq_true rfl, Nat.le_of_ble_eq_true rfl⟩ (fun H locs hP hD hS => ?_)
              have hP : va_P D vwCl [(a_t_order, .inl (cI, 60, .inl t_order_l23)), (a_t_times, .inl (cI, 60, .inl t_times_l23)), (a_t_text, .inl (cB, 200, .inl t_text)), (a_t, .inr (11, [.int t_thrown, .ref a_t_now, .ref a_t_kept, .int t_isKept, .ref a_t_text, .int t_length, .ref a_t_passing, .int t_at_r18, .int t_fault_r20, .int t_open_r21, .int t_asked_r17, .int t_byGun_r19, .int t_prizeMost_r22, .ref a_t_order, .ref a_t_times, .int t_listed_l23])), (a_t_now, .inl (cI, 1562, .inl t_now))] H := hP
              have hD : va_D A [(a_t_order, .inl (cI, 60, .inl t_order_l23)), (a_t_times, .inl (cI, 60, .inl t_times_l23)), (a_t_text, .inl (cB, 200, .inl t_text)), (a_t, .inr (11, [.int t_thrown, .ref a_t_now, .ref a_t_kept, .int t_isKept, .ref a_t_text, .int t_length, .ref a_t_passing, .int t_at_r18, .int t_fault_r20, .int t_open_r21, .int t_asked_r17, .int t_byGun_r19, .int t_prizeMost_r22, .ref a_t_order, .ref a_t_times, .int t_listed_l23])), (a_t_now, .inl (cI, 1562, .inl t_now))] := hD
              refine lv_iconst (v := (-1 : Int32)) hx hb dX11_list_57 rfl ?_
              refine lv_icmp_ne (tgt := 64) hx hb dX11_list_58 (by decide) (fun c27 => ?_) (fun c27 => ?_)
              · have h := zz_f h c27
                refine lv_aload_n hx hb dX11_list_64 rfl (lv_at hl 2 rfl) ?_
                refine lv_iload_n hx hb dX11_list_65 rfl (lv_at hl 0 rfl) ?_
                refine lv_aload_n hx hb dX11_list_66 rfl (lv_at hl 2 rfl) ?_
                refine va_get (D := D) (ci := 11) (C := RX11) (T := TX11) (N := 16) hx hb hts qX11_list_X11 hown hK hP 3 rfl rfl 11 (by decide) (hts _ kX11_list_3) (fun _ h9 => h9) rfl dX11_list_67 ?_
                obtain ⟨r28, e29, h⟩ := zz_b h
                refine zVi (As := [.int v2_23, .int t_byGun_r19]) (rest := []) (C := RX11) (wr := [(a_t_order, .inl (cI, 60, .inl t_order_l23)), (a_t_times, .inl (cI, 60, .inl t_times_l23)), (a_t_text, .inl (cB, 200, .inl t_text))]) [3, 4] [0, 1, 2] 0 ⟨hx, hb, hml, hown, hts⟩ (mX11_timeOf l D cB cI cZ a_t a_t_now a_t_kept a_t_text a_t_passing a_t_order a_t_times t_thrown t_isKept t_length t_at_r18 t_fault_r20 t_open_r21 t_asked_r17 t_byGun_r19 t_prizeMost_r22 t_listed_l23 t_now H.size v2_23 t_byGun_r19 N r28 e29) (cwV 2 hts gX11_list_X11_timeOf rfl rfl rfl (by decide +kernel) ⟨Nat.le_of_ble_eq_true rfl, Nat.le_of_ble_eq_true rfl⟩) hK hN hZ hP hD hS hA rfl rfl rfl rfl rfl rfl rfl rfl hl.1 rfl (lv_room (Nat.le_of_ble_eq_true rfl)) dX11_list_70 ⟨Nat.le_of_ble_eq_true rfl, Nat.le_of_ble_eq_true rfl⟩ (fun H locs hP hD hS => ?_)
                have hP : va_P D vwCl [(a_t_order, .inl (cI, 60, .inl t_order_l23)), (a_t_times, .inl (cI, 60, .inl t_times_l23)), (a_t_text, .inl (cB, 200, .inl t_text)), (a_t, .inr (11, [.int t_thrown, .ref a_t_now, .ref a_t_kept, .int t_isKept, .ref a_t_text, .int t_length, .ref a_t_passing, .int t_at_r18, .int t_fault_r20, .int t_open_r21, .int t_asked_r17, .int t_byGun_r19, .int t_prizeMost_r22, .ref a_t_order, .ref a_t_times, .int t_listed_l23])), (a_t_now, .inl (cI, 1562, .inl t_now))] H := hP
                have hD : va_D A [(a_t_order, .inl (cI, 60, .inl t_order_l23)), (a_t_times, .inl (cI, 60, .inl t_times_l23)), (a_t_text, .inl (cB, 200, .inl t_text)), (a_t, .inr (11, [.int t_thrown, .ref a_t_now, .ref a_t_kept, .int t_isKept, .ref a_t_text, .int t_length, .ref a_t_passing, .int t_at_r18, .int t_fault_r20, .int t_open_r21, .int t_asked_r17, .int t_byGun_r19, .int t_prizeMost_r22, .ref a_t_order, .ref a_t_times, .int t_listed_l23])), (a_t_now, .inl (cI, 1562, .inl t_now))] := hD
                refine lv_istore_n (lv' := [(3, .int r28), (2, .int v2_23), (1, .int (zb b1)), (0, .ref a_t)]) hx hb dX11_list_73 rfl hl (by decide) rfl (fun ls hl => ?_)
                refine lv_aload_n hx hb dX11_list_74 rfl (lv_at hl 3 rfl) ?_
                refine va_get (D := D) (ci := 11) (C := RX11) (T := TX11) (N := 16) hx hb hts qX11_list_X11 hown hK hP 3 rfl rfl 15 (by decide) (hts _ kX11_list_2) (fun _ h9 => h9) rfl dX11_list_75 ?_
                refine lv_istore (lv' := [(4, .int t_listed_l23), (3, .int r28), (2, .int v2_23), (1, .int (zb b1)), (0, .ref a_t)]) hx hb dX11_list_78 hl (by decide) rfl (fun ls hl => ?_)
                have X80_136 : ∀ (v4_80 : Int32) (t_order_l80 : Nat → Int32) (t_times_l80 : Nat → Int32) (H : Heap) (locs : List Loc) (ls : Array Slot), (if zin v4_80 60 then (if zin v4_80 60 then (fX11_list_L23 N t_length t_now t_text (fun (v2_23 : Int32) (t_at_l23 : Int32) (t_fault_l23 : Int32) (t_open_l23 : Int32) (t_asked_l23 : Int32) (t_byGun_l23 : Int32) (t_prizeMost_l23 : Int32) (t_listed_l23 : Int32) (t_order_l23 : Nat → Int32) (t_times_l23 : Nat → Int32) => some (true, t_asked_l23, t_at_l23, t_byGun_l23, t_fault_l23, t_listed_l23, t_open_l23, t_prizeMost_l23, t_order_l23, t_times_l23)) n23 (v2_23 + (nI 1)) t_at_r18 t_fault_r20 t_open_r21 t_asked_r17 t_byGun_r19 t_prizeMost_r22 (t_listed_l23 + (nI 1)) (upd t_order_l80 (v4_80).toNatClampNeg v2_23) (upd t_times_l80 (v4_80).toNatClampNeg r28)) else none) else none) = some (b0, t_asked', t_at', t_byGun', t_fault', t_listed', t_open', t_prizeMost', t_order', t_times') → va_P D vwCl [(a_t_order, .inl (cI, 60, .inl t_order_l80)), (a_t_times, .inl (cI, 60, .inl t_times_l80)), (a_t_text, .inl (cB, 200, .inl t_text)), (a_t, .inr (11, [.int t_thrown, .ref a_t_now, .ref a_t_kept, .int t_isKept, .ref a_t_text, .int t_length, .ref a_t_passing, .int t_at_r18, .int t_fault_r20, .int t_open_r21, .int t_asked_r17, .int t_byGun_r19, .int t_prizeMost_r22, .ref a_t_order, .ref a_t_times, .int t_listed_l23])), (a_t_now, .inl (cI, 1562, .inl t_now))] H → va_D A [(a_t_order, .inl (cI, 60, .inl t_order_l80)), (a_t_times, .inl (cI, 60, .inl t_times_l80)), (a_t_text, .inl (cB, 200, .inl t_text)), (a_t, .inr (11, [.int t_thrown, .ref a_t_now, .ref a_t_kept, .int t_isKept, .ref a_t_text, .int t_length, .ref a_t_passing, .int t_at_r18, .int t_fault_r20, .int t_open_r21, .int t_asked_r17, .int t_byGun_r19, .int t_prizeMost_r22, .ref a_t_order, .ref a_t_times, .int t_listed_l23])), (a_t_now, .inl (cI, 1562, .inl t_now))] → va_S A s.heap H locs → lv_has ls 5 [(4, .int v4_80), (3, .int r28), (2, .int v2_23), (1, .int (zb b1)), (0, .ref a_t)] → W p l e (headSpec wsX11_list ({ frames := 30, cells := 0, slots := 0, locals := 686 } : Room)).room s m #[Value.ref a_t] below meth c H locs 0 0 (MQ below (zQi (zb b0) D (zT cB cI cZ) [(a_t, .inr (11, [.int t_thrown, .ref a_t_now, .ref a_t_kept, .int t_isKept, .ref a_t_text, .int t_length, .ref a_t_passing, .int t_at', .int t_fault', .int t_open', .int t_asked', .int t_byGun', .int t_prizeMost', .ref a_t_order, .ref a_t_times, .int t_listed'])), (a_t_now, .inl (cI, 1562, .inl t_now)), (a_t_order, .inl (cI, 60, .inl t_order')), (a_t_text, .inl (cB, 200, .inl t_text)), (a_t_times, .inl (cI, 60, .inl t_times'))] A) #[Value.ref a_t] s 0 0 A) (F0 m 136 ls []) := by
                  intro v4_80 t_order_l80 t_times_l80 H locs ls h hP hD hS hl
                  refine lv_aload_n hx hb dX11_list_136 rfl (lv_at hl 4 rfl) ?_
                  refine va_get (D := D) (ci := 11) (C := RX11) (T := TX11) (N := 16) hx hb hts qX11_list_X11 hown hK hP 3 rfl rfl 14 (by decide) (hts _ kX11_list_4) (fun _ h9 => h9) rfl dX11_list_137 ?_
                  refine lv_iload hx hb dX11_list_140 (lv_at hl 0 rfl) ?_
                  refine lv_iload_n hx hb dX11_list_142 rfl (lv_at hl 1 rfl) ?_
                  obtain ⟨i30, h⟩ := zz_i h
                  refine va_iast hx hb hK hP hD hS 1 1 rfl rfl i30 dX11_list_143 (fun H locs hP hD hS => ?_)
                  have hP : va_P D vwCl [(a_t_order, .inl (cI, 60, .inl t_order_l80)), (a_t_times, .inl (cI, 60, .inl (upd t_times_l80 (v4_80).toNatClampNeg r28))), (a_t_text, .inl (cB, 200, .inl t_text)), (a_t, .inr (11, [.int t_thrown, .ref a_t_now, .ref a_t_kept, .int t_isKept, .ref a_t_text, .int t_length, .ref a_t_passing, .int t_at_r18, .int t_fault_r20, .int t_open_r21, .int t_asked_r17, .int t_byGun_r19, .int t_prizeMost_r22, .ref a_t_order, .ref a_t_times, .int t_listed_l23])), (a_t_now, .inl (cI, 1562, .inl t_now))] H := hP
                  have hD : va_D A [(a_t_order, .inl (cI, 60, .inl t_order_l80)), (a_t_times, .inl (cI, 60, .inl (upd t_times_l80 (v4_80).toNatClampNeg r28))), (a_t_text, .inl (cB, 200, .inl t_text)), (a_t, .inr (11, [.int t_thrown, .ref a_t_now, .ref a_t_kept, .int t_isKept, .ref a_t_text, .int t_length, .ref a_t_passing, .int t_at_r18, .int t_fault_r20, .int t_open_r21, .int t_asked_r17, .int t_byGun_r19, .int t_prizeMost_r22, .ref a_t_order, .ref a_t_times, .int t_listed_l23])), (a_t_now, .inl (cI, 1562, .inl t_now))] := hD
                  refine lv_aload_n hx hb dX11_list_144 rfl (lv_at hl 4 rfl) ?_
                  refine va_get (D := D) (ci := 11) (C := RX11) (T := TX11) (N := 16) hx hb hts qX11_list_X11 hown hK hP 3 rfl rfl 13 (by decide) (hts _ kX11_list_5) (fun _ h9 => h9) rfl dX11_list_145 ?_
                  refine lv_iload hx hb dX11_list_148 (lv_at hl 0 rfl) ?_
                  refine lv_iload_n hx hb dX11_list_150 rfl (lv_at hl 2 rfl) ?_
                  obtain ⟨i31, h⟩ := zz_i h
                  refine va_iast hx hb hK hP hD hS 0 1 rfl rfl i31 dX11_list_151 (fun H locs hP hD hS => ?_)
                  have hP : va_P D vwCl [(a_t_order, .inl (cI, 60, .inl (upd t_order_l80 (v4_80).toNatClampNeg v2_23))), (a_t_times, .inl (cI, 60, .inl (upd t_times_l80 (v4_80).toNatClampNeg r28))), (a_t_text, .inl (cB, 200, .inl t_text)), (a_t, .inr (11, [.int t_thrown, .ref a_t_now, .ref a_t_kept, .int t_isKept, .ref a_t_text, .int t_length, .ref a_t_passing, .int t_at_r18, .int t_fault_r20, .int t_open_r21, .int t_asked_r17, .int t_byGun_r19, .int t_prizeMost_r22, .ref a_t_order, .ref a_t_times, .int t_listed_l23])), (a_t_now, .inl (cI, 1562, .inl t_now))] H := hP
                  have hD : va_D A [(a_t_order, .inl (cI, 60, .inl (upd t_order_l80 (v4_80).toNatClampNeg v2_23))), (a_t_times, .inl (cI, 60, .inl (upd t_times_l80 (v4_80).toNatClampNeg r28))), (a_t_text, .inl (cB, 200, .inl t_text)), (a_t, .inr (11, [.int t_thrown, .ref a_t_now, .ref a_t_kept, .int t_isKept, .ref a_t_text, .int t_length, .ref a_t_passing, .int t_at_r18, .int t_fault_r20, .int t_open_r21, .int t_asked_r17, .int t_byGun_r19, .int t_prizeMost_r22, .ref a_t_order, .ref a_t_times, .int t_listed_l23])), (a_t_now, .inl (cI, 1562, .inl t_now))] := hD
                  refine lv_aload_n hx hb dX11_list_152 rfl (lv_at hl 4 rfl) ?_
                  refine lv_dup hx hb dX11_list_153 rfl ?_
                  refine va_get (D := D) (ci := 11) (C := RX11) (T := TX11) (N := 16) hx hb hts qX11_list_X11 hown hK hP 3 rfl rfl 15 (by decide) (hts _ kX11_list_2) (fun _ h9 => h9) rfl dX11_list_154 ?_
                  refine lv_iconst (v := (nI 1)) hx hb dX11_list_157 rfl ?_
                  refine lv_iadd hx hb dX11_list_158 ?_
                  refine va_put (D := D) (ci := 11) (ty := .int) (C := RX11) (T := TX11) (N := 16) hx hb hts qX11_list_X11 tyX11 tyX11_ok nmX11 hown hK hP hD hS 3 rfl rfl 15 (by decide) (hts _ kX11_list_2) (fun _ h9 => h9) rfl (by decide +kernel) rfl (by first | rfl | exact zz_fit) (Nat.le_of_ble_eq_true rfl) dX11_list_159 (fun H locs hP hD hS => ?_)
                  have hP : va_P D vwCl [(a_t_order, .inl (cI, 60, .inl (upd t_order_l80 (v4_80).toNatClampNeg v2_23))), (a_t_times, .inl (cI, 60, .inl (upd t_times_l80 (v4_80).toNatClampNeg r28))), (a_t_text, .inl (cB, 200, .inl t_text)), (a_t, .inr (11, [.int t_thrown, .ref a_t_now, .ref a_t_kept, .int t_isKept, .ref a_t_text, .int t_length, .ref a_t_passing, .int t_at_r18, .int t_fault_r20, .int t_open_r21, .int t_asked_r17, .int t_byGun_r19, .int t_prizeMost_r22, .ref a_t_order, .ref a_t_times, .int (t_listed_l23 + (nI 1))])), (a_t_now, .inl (cI, 1562, .inl t_now))] H := hP
                  have hD : va_D A [(a_t_order, .inl (cI, 60, .inl (upd t_order_l80 (v4_80).toNatClampNeg v2_23))), (a_t_times, .inl (cI, 60, .inl (upd t_times_l80 (v4_80).toNatClampNeg r28))), (a_t_text, .inl (cB, 200, .inl t_text)), (a_t, .inr (11, [.int t_thrown, .ref a_t_now, .ref a_t_kept, .int t_isKept, .ref a_t_text, .int t_length, .ref a_t_passing, .int t_at_r18, .int t_fault_r20, .int t_open_r21, .int t_asked_r17, .int t_byGun_r19, .int t_prizeMost_r22, .ref a_t_order, .ref a_t_times, .int (t_listed_l23 + (nI 1))])), (a_t_now, .inl (cI, 1562, .inl t_now))] := hD
                  refine lv_iinc (v := (v2_23 + (nI 1))) (lv' := [(2, .int (v2_23 + (nI 1))), (4, .int v4_80), (3, .int r28), (1, .int (zb b1)), (0, .ref a_t)]) hx hb dX11_list_162 hl (k := 2) rfl rfl (by decide) rfl (fun ls hl => ?_)
                  refine lv_goto (tgt := 23) hx hb dX11_list_165 (by decide) ?_
                  exact ih23 (v2_23 + (nI 1)) t_at_r18 t_fault_r20 t_open_r21 t_asked_r17 t_byGun_r19 t_prizeMost_r22 (t_listed_l23 + (nI 1)) (upd t_order_l80 (v4_80).toNatClampNeg v2_23) (upd t_times_l80 (v4_80).toNatClampNeg r28) _ _ _ h (hP.sub [0, 1, 3, 4, 2] rfl) (hD.sub [0, 1, 3, 4, 2] rfl rfl) hS (lv_sub hl [0, 3, 4] rfl)
                have L80 : ∀ (n : Nat) (v4_80 : Int32) (t_order_l80 : Nat → Int32) (t_times_l80 : Nat → Int32) (H : Heap) (locs : List Loc) (ls : Array Slot), fX11_list_L80 r28 (fun (v4_80 : Int32) (t_order_l80 : Nat → Int32) (t_times_l80 : Nat → Int32) => (if zin v4_80 60 then (if zin v4_80 60 then (fX11_list_L23 N t_length t_now t_text (fun (v2_23 : Int32) (t_at_l23 : Int32) (t_fault_l23 : Int32) (t_open_l23 : Int32) (t_asked_l23 : Int32) (t_byGun_l23 : Int32) (t_prizeMost_l23 : Int32) (t_listed_l23 : Int32) (t_order_l23 : Nat → Int32) (t_times_l23 : Nat → Int32) => some (true, t_asked_l23, t_at_l23, t_byGun_l23, t_fault_l23, t_listed_l23, t_open_l23, t_prizeMost_l23, t_order_l23, t_times_l23)) n23 (v2_23 + (nI 1)) t_at_r18 t_fault_r20 t_open_r21 t_asked_r17 t_byGun_r19 t_prizeMost_r22 (t_listed_l23 + (nI 1)) (upd t_order_l80 (v4_80).toNatClampNeg v2_23) (upd t_times_l80 (v4_80).toNatClampNeg r28)) else none) else none)) n v4_80 t_order_l80 t_times_l80 = some (b0, t_asked', t_at', t_byGun', t_fault', t_listed', t_open', t_prizeMost', t_order', t_times') → va_P D vwCl [(a_t_order, .inl (cI, 60, .inl t_order_l80)), (a_t_times, .inl (cI, 60, .inl t_times_l80)), (a_t_text, .inl (cB, 200, .inl t_text)), (a_t, .inr (11, [.int t_thrown, .ref a_t_now, .ref a_t_kept, .int t_isKept, .ref a_t_text, .int t_length, .ref a_t_passing, .int t_at_r18, .int t_fault_r20, .int t_open_r21, .int t_asked_r17, .int t_byGun_r19, .int t_prizeMost_r22, .ref a_t_order, .ref a_t_times, .int t_listed_l23])), (a_t_now, .inl (cI, 1562, .inl t_now))] H → va_D A [(a_t_order, .inl (cI, 60, .inl t_order_l80)), (a_t_times, .inl (cI, 60, .inl t_times_l80)), (a_t_text, .inl (cB, 200, .inl t_text)), (a_t, .inr (11, [.int t_thrown, .ref a_t_now, .ref a_t_kept, .int t_isKept, .ref a_t_text, .int t_length, .ref a_t_passing, .int t_at_r18, .int t_fault_r20, .int t_open_r21, .int t_asked_r17, .int t_byGun_r19, .int t_prizeMost_r22, .ref a_t_order, .ref a_t_times, .int t_listed_l23])), (a_t_now, .inl (cI, 1562, .inl t_now))] → va_S A s.heap H locs → lv_has ls 5 [(4, .int v4_80), (3, .int r28), (2, .int v2_23), (1, .int (zb b1)), (0, .ref a_t)] → W p l e (headSpec wsX11_list ({ frames := 30, cells := 0, slots := 0, locals := 686 } : Room)).room s m #[Value.ref a_t] below meth c H locs 0 0 (MQ below (zQi (zb b0) D (zT cB cI cZ) [(a_t, .inr (11, [.int t_thrown, .ref a_t_now, .ref a_t_kept, .int t_isKept, .ref a_t_text, .int t_length, .ref a_t_passing, .int t_at', .int t_fault', .int t_open', .int t_asked', .int t_byGun', .int t_prizeMost', .ref a_t_order, .ref a_t_times, .int t_listed'])), (a_t_now, .inl (cI, 1562, .inl t_now)), (a_t_order, .inl (cI, 60, .inl t_order')), (a_t_text, .inl (cB, 200, .inl t_text)), (a_t_times, .inl (cI, 60, .inl t_times'))] A) #[Value.ref a_t] s 0 0 A) (F0 m 80 ls []) := by
                  intro n
                  induction n with
                  | zero => intro _ _ _ H locs ls h hP hD hS hl; cases h
                  | succ n80 ih80 =>
                    intro v4_80 t_order_l80 t_times_l80 H locs ls h hP hD hS hl
                    rw [fX11_list_L80.eq_2] at h
                    refine lv_iload hx hb dX11_list_80 (lv_at hl 0 rfl) ?_
                    refine lv_if_le (tgt := 136) hx hb dX11_list_82 (by decide) (fun c32 => ?_) (fun c32 => ?_)
                    · have h := zz_t h c32
                      exact X80_136 v4_80 t_order_l80 t_times_l80 _ _ _ h (hP.sub [0, 1, 2, 3, 4] rfl) (hD.sub [0, 1, 2, 3, 4] rfl rfl) hS (lv_sub hl [0, 1, 2, 3, 4] rfl)
                    · have h := zz_f h c32
                      refine lv_aload_n hx hb dX11_list_85 rfl (lv_at hl 4 rfl) ?_
                      refine va_get (D := D) (ci := 11) (C := RX11) (T := TX11) (N := 16) hx hb hts qX11_list_X11 hown hK hP 3 rfl rfl 14 (by decide) (hts _ kX11_list_4) (fun _ h9 => h9) rfl dX11_list_86 ?_
                      refine lv_iload hx hb dX11_list_89 (lv_at hl 0 rfl) ?_
                      refine lv_iconst (v := (nI 1)) hx hb dX11_list_91 rfl ?_
                      refine lv_isub hx hb dX11_list_92 ?_
                      obtain ⟨i33, h⟩ := zz_i h
                      refine va_iald hx hb hK hP 1 1 rfl rfl i33 dX11_list_93 ?_
                      refine lv_iload_n hx hb dX11_list_94 rfl (lv_at hl 1 rfl) ?_
                      refine lv_icmp_le (tgt := 136) hx hb dX11_list_95 (by decide) (fun c34 => ?_) (fun c34 => ?_)
                      · have h := zz_t h c34
                        exact X80_136 v4_80 t_order_l80 t_times_l80 _ _ _ h (hP.sub [0, 1, 2, 3, 4] rfl) (hD.sub [0, 1, 2, 3, 4] rfl rfl) hS (lv_sub hl [0, 1, 2, 3, 4] rfl)
                      · have h := zz_f h c34
                        refine lv_aload_n hx hb dX11_list_98 rfl (lv_at hl 4 rfl) ?_
                        refine va_get (D := D) (ci := 11) (C := RX11) (T := TX11) (N := 16) hx hb hts qX11_list_X11 hown hK hP 3 rfl rfl 14 (by decide) (hts _ kX11_list_4) (fun _ h9 => h9) rfl dX11_list_99 ?_
                        refine lv_iload hx hb dX11_list_102 (lv_at hl 0 rfl) ?_
                        refine lv_aload_n hx hb dX11_list_104 rfl (lv_at hl 4 rfl) ?_
                        refine va_get (D := D) (ci := 11) (C := RX11) (T := TX11) (N := 16) hx hb hts qX11_list_X11 hown hK hP 3 rfl rfl 14 (by decide) (hts _ kX11_list_4) (fun _ h9 => h9) rfl dX11_list_105 ?_
                        refine lv_iload hx hb dX11_list_108 (lv_at hl 0 rfl) ?_
                        refine lv_iconst (v := (nI 1)) hx hb dX11_list_110 rfl ?_
                        refine lv_isub hx hb dX11_list_111 ?_
                        obtain ⟨i35, h⟩ := zz_i h
                        refine va_iald hx hb hK hP 1 1 rfl rfl i35 dX11_list_112 ?_
                        obtain ⟨i36, h⟩ := zz_i h
                        refine va_iast hx hb hK hP hD hS 1 1 rfl rfl i36 dX11_list_113 (fun H locs hP hD hS => ?_)
                        have hP : va_P D vwCl [(a_t_order, .inl (cI, 60, .inl t_order_l80)), (a_t_times, .inl (cI, 60, .inl (upd t_times_l80 (v4_80).toNatClampNeg (t_times_l80 ((v4_80 - (nI 1))).toNatClampNeg)))), (a_t_text, .inl (cB, 200, .inl t_text)), (a_t, .inr (11, [.int t_thrown, .ref a_t_now, .ref a_t_kept, .int t_isKept, .ref a_t_text, .int t_length, .ref a_t_passing, .int t_at_r18, .int t_fault_r20, .int t_open_r21, .int t_asked_r17, .int t_byGun_r19, .int t_prizeMost_r22, .ref a_t_order, .ref a_t_times, .int t_listed_l23])), (a_t_now, .inl (cI, 1562, .inl t_now))] H := hP
                        have hD : va_D A [(a_t_order, .inl (cI, 60, .inl t_order_l80)), (a_t_times, .inl (cI, 60, .inl (upd t_times_l80 (v4_80).toNatClampNeg (t_times_l80 ((v4_80 - (nI 1))).toNatClampNeg)))), (a_t_text, .inl (cB, 200, .inl t_text)), (a_t, .inr (11, [.int t_thrown, .ref a_t_now, .ref a_t_kept, .int t_isKept, .ref a_t_text, .int t_length, .ref a_t_passing, .int t_at_r18, .int t_fault_r20, .int t_open_r21, .int t_asked_r17, .int t_byGun_r19, .int t_prizeMost_r22, .ref a_t_order, .ref a_t_times, .int t_listed_l23])), (a_t_now, .inl (cI, 1562, .inl t_now))] := hD
                        refine lv_aload_n hx hb dX11_list_114 rfl (lv_at hl 4 rfl) ?_
                        refine va_get (D := D) (ci := 11) (C := RX11) (T := TX11) (N := 16) hx hb hts qX11_list_X11 hown hK hP 3 rfl rfl 13 (by decide) (hts _ kX11_list_5) (fun _ h9 => h9) rfl dX11_list_115 ?_
                        refine lv_iload hx hb dX11_list_118 (lv_at hl 0 rfl) ?_
                        refine lv_aload_n hx hb dX11_list_120 rfl (lv_at hl 4 rfl) ?_
                        refine va_get (D := D) (ci := 11) (C := RX11) (T := TX11) (N := 16) hx hb hts qX11_list_X11 hown hK hP 3 rfl rfl 13 (by decide) (hts _ kX11_list_5) (fun _ h9 => h9) rfl dX11_list_121 ?_
                        refine lv_iload hx hb dX11_list_124 (lv_at hl 0 rfl) ?_
                        refine lv_iconst (v := (nI 1)) hx hb dX11_list_126 rfl ?_
                        refine lv_isub hx hb dX11_list_127 ?_
                        obtain ⟨i37, h⟩ := zz_i h
                        refine va_iald hx hb hK hP 0 1 rfl rfl i37 dX11_list_128 ?_
                        obtain ⟨i38, h⟩ := zz_i h
                        refine va_iast hx hb hK hP hD hS 0 1 rfl rfl i38 dX11_list_129 (fun H locs hP hD hS => ?_)
                        have hP : va_P D vwCl [(a_t_order, .inl (cI, 60, .inl (upd t_order_l80 (v4_80).toNatClampNeg (t_order_l80 ((v4_80 - (nI 1))).toNatClampNeg)))), (a_t_times, .inl (cI, 60, .inl (upd t_times_l80 (v4_80).toNatClampNeg (t_times_l80 ((v4_80 - (nI 1))).toNatClampNeg)))), (a_t_text, .inl (cB, 200, .inl t_text)), (a_t, .inr (11, [.int t_thrown, .ref a_t_now, .ref a_t_kept, .int t_isKept, .ref a_t_text, .int t_length, .ref a_t_passing, .int t_at_r18, .int t_fault_r20, .int t_open_r21, .int t_asked_r17, .int t_byGun_r19, .int t_prizeMost_r22, .ref a_t_order, .ref a_t_times, .int t_listed_l23])), (a_t_now, .inl (cI, 1562, .inl t_now))] H := hP
                        have hD : va_D A [(a_t_order, .inl (cI, 60, .inl (upd t_order_l80 (v4_80).toNatClampNeg (t_order_l80 ((v4_80 - (nI 1))).toNatClampNeg)))), (a_t_times, .inl (cI, 60, .inl (upd t_times_l80 (v4_80).toNatClampNeg (t_times_l80 ((v4_80 - (nI 1))).toNatClampNeg)))), (a_t_text, .inl (cB, 200, .inl t_text)), (a_t, .inr (11, [.int t_thrown, .ref a_t_now, .ref a_t_kept, .int t_isKept, .ref a_t_text, .int t_length, .ref a_t_passing, .int t_at_r18, .int t_fault_r20, .int t_open_r21, .int t_asked_r17, .int t_byGun_r19, .int t_prizeMost_r22, .ref a_t_order, .ref a_t_times, .int t_listed_l23])), (a_t_now, .inl (cI, 1562, .inl t_now))] := hD
                        refine lv_iinc (v := (v4_80 + (-1 : Int32))) (lv' := [(4, .int (v4_80 + (-1 : Int32))), (3, .int r28), (2, .int v2_23), (1, .int (zb b1)), (0, .ref a_t)]) hx hb dX11_list_130 hl (k := 0) rfl rfl (by decide) rfl (fun ls hl => ?_)
                        refine lv_goto (tgt := 80) hx hb dX11_list_133 (by decide) ?_
                        exact ih80 (v4_80 + (-1 : Int32)) (upd t_order_l80 (v4_80).toNatClampNeg (t_order_l80 ((v4_80 - (nI 1))).toNatClampNeg)) (upd t_times_l80 (v4_80).toNatClampNeg (t_times_l80 ((v4_80 - (nI 1))).toNatClampNeg)) _ _ _ h (hP.sub [0, 1, 2, 3, 4] rfl) (hD.sub [0, 1, 2, 3, 4] rfl rfl) hS (lv_sub hl [0, 1, 2, 3, 4] rfl)
                exact L80 N t_listed_l23 t_order_l23 t_times_l23 _ _ _ h hP hD hS hl
              · have h := zz_t h c27
                refine lv_goto (tgt := 162) hx hb dX11_list_61 (by decide) ?_
                refine lv_iinc (v := (v2_23 + (nI 1))) (lv' := [(2, .int (v2_23 + (nI 1))), (1, .int (zb b1)), (0, .ref a_t)]) hx hb dX11_list_162 hl (k := 0) rfl rfl (by decide) rfl (fun ls hl => ?_)
                refine lv_goto (tgt := 23) hx hb dX11_list_165 (by decide) ?_
                exact ih23 (v2_23 + (nI 1)) t_at_r18 t_fault_r20 t_open_r21 t_asked_r17 t_byGun_r19 t_prizeMost_r22 t_listed_l23 t_order_l23 t_times_l23 _ _ _ h (hP.sub [0, 1, 3, 4, 2] rfl) (hD.sub [0, 1, 3, 4, 2] rfl rfl) hS (lv_sub hl [0, 1, 2] rfl)
    exact L23 N (nI 0) t_at_r3 t_fault_r5 t_open_r6 t_asked_r2 t_byGun_r4 t_prizeMost_r7 (nI 0) t_order t_times _ _ _ h hP hD hS hl
  · have h := zz_f h c9
    refine lv_iconst (v := (nI 0)) hx hb dX11_list_14 rfl ?_
    obtain ⟨j0_, g_⟩ := Prod.mk.inj (Option.some.inj h)
    obtain ⟨j1_, g_⟩ := Prod.mk.inj g_
    obtain ⟨j2_, g_⟩ := Prod.mk.inj g_
    obtain ⟨j3_, g_⟩ := Prod.mk.inj g_
    obtain ⟨j4_, g_⟩ := Prod.mk.inj g_
    obtain ⟨j5_, g_⟩ := Prod.mk.inj g_
    obtain ⟨j6_, g_⟩ := Prod.mk.inj g_
    obtain ⟨j7_, g_⟩ := Prod.mk.inj g_
    obtain ⟨j8_, g_⟩ := Prod.mk.inj g_
    have j9_ := g_
    subst j0_
    subst j1_
    subst j2_
    subst j3_
    subst j4_
    subst j5_
    subst j6_
    subst j7_
    subst j8_
    subst j9_
    exact W.zret (v := (nI 0)) hx hb hr rfl (fun t ht hW => ⟨⟨_, (), rfl, rfl, zPost.of hP hD hK ht hW [2, 3, 0, 4, 1] rfl rfl rfl⟩, hS.F ht⟩) hS.2.2 dX11_list_15
/-! RunDeskModel.placeOf -/
theorem dX11_placeOf_0 : decode cX11_placeOf 0 = .ok (.iconst 1, 1) := by decide +kernel
theorem dX11_placeOf_1 : decode cX11_placeOf 1 = .ok (.istore_n 2, 1) := by decide +kernel
theorem dX11_placeOf_2 : decode cX11_placeOf 2 = .ok (.iconst 0, 1) := by decide +kernel
theorem dX11_placeOf_3 : decode cX11_placeOf 3 = .ok (.istore_n 3, 1) := by decide +kernel
theorem dX11_placeOf_4 : decode cX11_placeOf 4 = .ok (.iload_n 3, 1) := by decide +kernel
theorem dX11_placeOf_5 : decode cX11_placeOf 5 = .ok (.aload_n 0, 1) := by decide +kernel
theorem dX11_placeOf_6 : decode cX11_placeOf 6 = .ok (.getfield 198, 3) := by decide +kernel
theorem dX11_placeOf_9 : decode cX11_placeOf 9 = .ok (.if_icmp .ge 32, 3) := by decide +kernel
theorem dX11_placeOf_12 : decode cX11_placeOf 12 = .ok (.iload_n 2, 1) := by decide +kernel
theorem dX11_placeOf_13 : decode cX11_placeOf 13 = .ok (.aload_n 0, 1) := by decide +kernel
theorem dX11_placeOf_14 : decode cX11_placeOf 14 = .ok (.getfield 26, 3) := by decide +kernel
theorem dX11_placeOf_17 : decode cX11_placeOf 17 = .ok (.iload_n 3, 1) := by decide +kernel
theorem dX11_placeOf_18 : decode cX11_placeOf 18 = .ok (.iaload, 1) := by decide +kernel
theorem dX11_placeOf_19 : decode cX11_placeOf 19 = .ok (.aload_n 0, 1) := by decide +kernel
theorem dX11_placeOf_20 : decode cX11_placeOf 20 = .ok (.getfield 26, 3) := by decide +kernel
theorem dX11_placeOf_23 : decode cX11_placeOf 23 = .ok (.iload_n 1, 1) := by decide +kernel
theorem dX11_placeOf_24 : decode cX11_placeOf 24 = .ok (.iaload, 1) := by decide +kernel
theorem dX11_placeOf_25 : decode cX11_placeOf 25 = .ok (.if_icmp .ge 7, 3) := by decide +kernel
theorem dX11_placeOf_28 : decode cX11_placeOf 28 = .ok (.iconst 1, 1) := by decide +kernel
theorem dX11_placeOf_29 : decode cX11_placeOf 29 = .ok (.goto 4, 3) := by decide +kernel
theorem dX11_placeOf_32 : decode cX11_placeOf 32 = .ok (.iconst 0, 1) := by decide +kernel
theorem dX11_placeOf_33 : decode cX11_placeOf 33 = .ok (.iadd, 1) := by decide +kernel
theorem dX11_placeOf_34 : decode cX11_placeOf 34 = .ok (.istore_n 2, 1) := by decide +kernel
theorem dX11_placeOf_35 : decode cX11_placeOf 35 = .ok (.iinc 3 1, 3) := by decide +kernel
theorem dX11_placeOf_38 : decode cX11_placeOf 38 = .ok (.goto (-34), 3) := by decide +kernel
theorem dX11_placeOf_41 : decode cX11_placeOf 41 = .ok (.iload_n 2, 1) := by decide +kernel
theorem dX11_placeOf_42 : decode cX11_placeOf 42 = .ok (.ireturn, 1) := by decide +kernel
theorem kX11_placeOf_0 : (.fieldLink RX11 198 "RunDeskModel" "listed" "I" : Cond) ∈ wsX11_placeOf := List.mem_of_getElem? (i := 1) (by decide +kernel)
theorem qX11_placeOf_X11 : ∀ w ∈ wsX110, w ∈ wsX11_placeOf := fun _ h => List.mem_cons_of_mem _ (List.mem_append_right _ (h))
theorem kX11_placeOf_2 : (.fieldLink RX11 26 "RunDeskModel" "times" "[I" : Cond) ∈ wsX11_placeOf := List.mem_of_getElem? (i := 2) (by decide +kernel)
set_option maxHeartbeats 4000000 in
set_option maxRecDepth 100000 in
theorem mX11_placeOf (l : Launch) (D : va_G) (cB cI cZ : ClassId) (a_t : Nat) (a_t_now : Nat) (a_t_kept : Nat) (a_t_text : Nat) (a_t_passing : Nat) (a_t_order : Nat) (a_t_times : Nat) (t_thrown : Int32) (t_isKept : Int32) (t_length : Int32) (t_at : Int32) (t_fault : Int32) (t_open : Int32) (t_asked : Int32) (t_byGun : Int32) (t_prizeMost : Int32) (t_listed : Int32) (t_times : Nat → Int32) (sz : Nat) (x1 : Int32) (N : Nat) (r0 : Int32) (h : fX11_placeOf N t_listed t_times x1 = some (r0)) : Met l yX11_placeOf wsX11_placeOf ({ frames := 0, cells := 0, slots := 0, locals := 0 } : Room) (va_Pc [.ref a_t, .int x1] (zPre D (zT cB cI cZ) [(a_t, .inr (11, [.int t_thrown, .ref a_t_now, .ref a_t_kept, .int t_isKept, .ref a_t_text, .int t_length, .ref a_t_passing, .int t_at, .int t_fault, .int t_open, .int t_asked, .int t_byGun, .int t_prizeMost, .ref a_t_order, .ref a_t_times, .int t_listed])), (a_t_times, .inl (cI, 60, .inl t_times))] sz)) (zQi r0 D (zT cB cI cZ) [(a_t, .inr (11, [.int t_thrown, .ref a_t_now, .ref a_t_kept, .int t_isKept, .ref a_t_text, .int t_length, .ref a_t_passing, .int t_at, .int t_fault, .int t_open, .int t_asked, .int t_byGun, .int t_prizeMost, .ref a_t_order, .ref a_t_times, .int t_listed])), (a_t_times, .inl (cI, 60, .inl t_times))] (va_A [(a_t, .inr (11, [.int t_thrown, .ref a_t_now, .ref a_t_kept, .int t_isKept, .ref a_t_text, .int t_length, .ref a_t_passing, .int t_at, .int t_fault, .int t_open, .int t_asked, .int t_byGun, .int t_prizeMost, .ref a_t_order, .ref a_t_times, .int t_listed])), (a_t_times, .inl (cI, 60, .inl t_times))] sz)) 0 0 (va_A [(a_t, .inr (11, [.int t_thrown, .ref a_t_now, .ref a_t_kept, .int t_isKept, .ref a_t_text, .int t_length, .ref a_t_passing, .int t_at, .int t_fault, .int t_open, .int t_asked, .int t_byGun, .int t_prizeMost, .ref a_t_order, .ref a_t_times, .int t_listed])), (a_t_times, .inl (cI, 60, .inl t_times))] sz) := by
  refine Met.ofW (cc := cX11_placeOf) (maxL := 4) (ret := (some .int)) (by decide) rfl ?_
  intro p e s m args below meth c s₁ B hml hv
  obtain ⟨rfl, hsz, hP, hK, hN, hZ, hD0⟩ := hv
  have hx := B.exec
  have hb := B.bytes
  have hr := B.returns
  have hts := atoms_spec (ws := wsX11_placeOf) B.pre
  have hown : s.vm.findClass RX11 = some m.cls := findClass_of_methodNamed B.named
  have hlocks := B.notSynchronized
  subst hsz
  have hD := hD0.self (sz := s.heap.size)
  generalize hAe : va_A [(a_t, .inr (11, [.int t_thrown, .ref a_t_now, .ref a_t_kept, .int t_isKept, .ref a_t_text, .int t_length, .ref a_t_passing, .int t_at, .int t_fault, .int t_open, .int t_asked, .int t_byGun, .int t_prizeMost, .ref a_t_order, .ref a_t_times, .int t_listed])), (a_t_times, .inl (cI, 60, .inl t_times))] s.heap.size = A at hD hZ ⊢
  have hA : ∀ q : Nat, s.heap.size ≤ q → A q := fun q h => by rw [← hAe]; exact Or.inr h
  have hS : va_S A s.heap s.heap [] := va_S.rf
  have hl := lv_entry ([.ref a_t, .int x1]) (n := 4) (Nat.le_of_ble_eq_true rfl)
  rw [lg_entry_eq]
  generalize (lg_sl ([.ref a_t, .int x1]) ++ List.replicate (4 - (lg_sl ([.ref a_t, .int x1])).length) Slot.unset).toArray = ls at hl ⊢
  have hl : lv_has ls 4 [(0, .ref a_t), (1, .int x1)] := hl
  unfold fX11_placeOf at h
  refine lv_iconst (v := (nI 1)) hx hb dX11_placeOf_0 rfl ?_
  refine lv_istore_n (lv' := [(2, .int (nI 1)), (0, .ref a_t), (1, .int x1)]) hx hb dX11_placeOf_1 rfl hl (by decide) rfl (fun ls hl => ?_)
  refine lv_iconst (v := (nI 0)) hx hb dX11_placeOf_2 rfl ?_
  refine lv_istore_n (lv' := [(3, .int (nI 0)), (2, .int (nI 1)), (0, .ref a_t), (1, .int x1)]) hx hb dX11_placeOf_3 rfl hl (by decide) rfl (fun ls hl => ?_)
  have X4_41 : ∀ (v2_4 : Int32) (v3_4 : Int32) (H : Heap) (locs : List Loc) (ls : Array Slot), some (v2_4) = some (r0) → va_P D vwCl [(a_t, .inr (11, [.int t_thrown, .ref a_t_now, .ref a_t_kept, .int t_isKept, .ref a_t_text, .int t_length, .ref a_t_passing, .int t_at, .int t_fault, .int t_open, .int t_asked, .int t_byGun, .int t_prizeMost, .ref a_t_order, .ref a_t_times, .int t_listed])), (a_t_times, .inl (cI, 60, .inl t_times))] H → va_D A [(a_t, .inr (11, [.int t_thrown, .ref a_t_now, .ref a_t_kept, .int t_isKept, .ref a_t_text, .int t_length, .ref a_t_passing, .int t_at, .int t_fault, .int t_open, .int t_asked, .int t_byGun, .int t_prizeMost, .ref a_t_order, .ref a_t_times, .int t_listed])), (a_t_times, .inl (cI, 60, .inl t_times))] → va_S A s.heap H locs → lv_has ls 4 [(3, .int v3_4), (2, .int v2_4), (0, .ref a_t), (1, .int x1)] → W p l e (headSpec wsX11_placeOf ({ frames := 0, cells := 0, slots := 0, locals := 0 } : Room)).room s m #[Value.ref a_t, Value.int x1] below meth c H locs 0 0 (MQ below (zQi r0 D (zT cB cI cZ) [(a_t, .inr (11, [.int t_thrown, .ref a_t_now, .ref a_t_kept, .int t_isKept, .ref a_t_text, .int t_length, .ref a_t_passing, .int t_at, .int t_fault, .int t_open, .int t_asked, .int t_byGun, .int t_prizeMost, .ref a_t_order, .ref a_t_times, .int t_listed])), (a_t_times, .inl (cI, 60, .inl t_times))] A) #[Value.ref a_t, Value.int x1] s 0 0 A) (F0 m 41 ls []) := by
    intro v2_4 v3_4 H locs ls h hP hD hS hl
    refine lv_iload_n hx hb dX11_placeOf_41 rfl (lv_at hl 1 rfl) ?_
    have j0_ := Option.some.inj h
    subst j0_
    exact W.iret (v := v2_4) hx hb hr (fun t ht hW => ⟨⟨_, (), rfl, rfl, zPost.of hP hD hK ht hW [0, 1] rfl rfl rfl⟩, hS.F ht⟩) hS.2.2 dX11_placeOf_42
  have L4 : ∀ (n : Nat) (v2_4 : Int32) (v3_4 : Int32) (H : Heap) (locs : List Loc) (ls : Array Slot), fX11_placeOf_L4 t_listed t_times x1 (fun (v2_4 : Int32) (v3_4 : Int32) => some (v2_4)) n v2_4 v3_4 = some (r0) → va_P D vwCl [(a_t, .inr (11, [.int t_thrown, .ref a_t_now, .ref a_t_kept, .int t_isKept, .ref a_t_text, .int t_length, .ref a_t_passing, .int t_at, .int t_fault, .int t_open, .int t_asked, .int t_byGun, .int t_prizeMost, .ref a_t_order, .ref a_t_times, .int t_listed])), (a_t_times, .inl (cI, 60, .inl t_times))] H → va_D A [(a_t, .inr (11, [.int t_thrown, .ref a_t_now, .ref a_t_kept, .int t_isKept, .ref a_t_text, .int t_length, .ref a_t_passing, .int t_at, .int t_fault, .int t_open, .int t_asked, .int t_byGun, .int t_prizeMost, .ref a_t_order, .ref a_t_times, .int t_listed])), (a_t_times, .inl (cI, 60, .inl t_times))] → va_S A s.heap H locs → lv_has ls 4 [(3, .int v3_4), (2, .int v2_4), (0, .ref a_t), (1, .int x1)] → W p l e (headSpec wsX11_placeOf ({ frames := 0, cells := 0, slots := 0, locals := 0 } : Room)).room s m #[Value.ref a_t, Value.int x1] below meth c H locs 0 0 (MQ below (zQi r0 D (zT cB cI cZ) [(a_t, .inr (11, [.int t_thrown, .ref a_t_now, .ref a_t_kept, .int t_isKept, .ref a_t_text, .int t_length, .ref a_t_passing, .int t_at, .int t_fault, .int t_open, .int t_asked, .int t_byGun, .int t_prizeMost, .ref a_t_order, .ref a_t_times, .int t_listed])), (a_t_times, .inl (cI, 60, .inl t_times))] A) #[Value.ref a_t, Value.int x1] s 0 0 A) (F0 m 4 ls []) := by
    intro n
    induction n with
    | zero => intro _ _ H locs ls h hP hD hS hl; cases h
    | succ n4 ih4 =>
      intro v2_4 v3_4 H locs ls h hP hD hS hl
      rw [fX11_placeOf_L4.eq_2] at h
      refine lv_iload_n hx hb dX11_placeOf_4 rfl (lv_at hl 0 rfl) ?_
      refine lv_aload_n hx hb dX11_placeOf_5 rfl (lv_at hl 2 rfl) ?_
      refine va_get (D := D) (ci := 11) (C := RX11) (T := TX11) (N := 16) hx hb hts qX11_placeOf_X11 hown hK hP 0 rfl rfl 15 (by decide) (hts _ kX11_placeOf_0) (fun _ h9 => h9) rfl dX11_placeOf_6 ?_
      refine lv_icmp_ge (tgt := 41) hx hb dX11_placeOf_9 (by decide) (fun c1 => ?_) (fun c1 => ?_)
      · have h := zz_t h c1
        exact X4_41 v2_4 v3_4 _ _ _ h (hP.sub [0, 1] rfl) (hD.sub [0, 1] rfl rfl) hS (lv_sub hl [0, 1, 2, 3] rfl)
      · have h := zz_f h c1
        refine lv_iload_n hx hb dX11_placeOf_12 rfl (lv_at hl 1 rfl) ?_
        refine lv_aload_n hx hb dX11_placeOf_13 rfl (lv_at hl 2 rfl) ?_
        refine va_get (D := D) (ci := 11) (C := RX11) (T := TX11) (N := 16) hx hb hts qX11_placeOf_X11 hown hK hP 0 rfl rfl 14 (by decide) (hts _ kX11_placeOf_2) (fun _ h9 => h9) rfl dX11_placeOf_14 ?_
        refine lv_iload_n hx hb dX11_placeOf_17 rfl (lv_at hl 0 rfl) ?_
        obtain ⟨i2, h⟩ := zz_i h
        refine va_iald hx hb hK hP 1 1 rfl rfl i2 dX11_placeOf_18 ?_
        refine lv_aload_n hx hb dX11_placeOf_19 rfl (lv_at hl 2 rfl) ?_
        refine va_get (D := D) (ci := 11) (C := RX11) (T := TX11) (N := 16) hx hb hts qX11_placeOf_X11 hown hK hP 0 rfl rfl 14 (by decide) (hts _ kX11_placeOf_2) (fun _ h9 => h9) rfl dX11_placeOf_20 ?_
        refine lv_iload_n hx hb dX11_placeOf_23 rfl (lv_at hl 3 rfl) ?_
        obtain ⟨i3, h⟩ := zz_i h
        refine va_iald hx hb hK hP 1 1 rfl rfl i3 dX11_placeOf_24 ?_
        refine lv_icmp_ge (tgt := 32) hx hb dX11_placeOf_25 (by decide) (fun c4 => ?_) (fun c4 => ?_)
        · have h := zz_t h c4
          refine lv_iconst (v := (nI 0)) hx hb dX11_placeOf_32 rfl ?_
          refine lv_iadd hx hb dX11_placeOf_33 ?_
          refine lv_istore_n (lv' := [(2, .int (v2_4 + (nI 0))), (3, .int v3_4), (0, .ref a_t), (1, .int x1)]) hx hb dX11_placeOf_34 rfl hl (by decide) rfl (fun ls hl => ?_)
          refine lv_iinc (v := (v3_4 + (nI 1))) (lv' := [(3, .int (v3_4 + (nI 1))), (2, .int (v2_4 + (nI 0))), (0, .ref a_t), (1, .int x1)]) hx hb dX11_placeOf_35 hl (k := 1) rfl rfl (by decide) rfl (fun ls hl => ?_)
          refine lv_goto (tgt := 4) hx hb dX11_placeOf_38 (by decide) ?_
          exact ih4 (v2_4 + (nI 0)) (v3_4 + (nI 1)) _ _ _ h (hP.sub [0, 1] rfl) (hD.sub [0, 1] rfl rfl) hS (lv_sub hl [0, 1, 2, 3] rfl)
        · have h := zz_f h c4
          refine lv_iconst (v := (nI 1)) hx hb dX11_placeOf_28 rfl ?_
          refine lv_goto (tgt := 33) hx hb dX11_placeOf_29 (by decide) ?_
          refine lv_iadd hx hb dX11_placeOf_33 ?_
          refine lv_istore_n (lv' := [(2, .int (v2_4 + (nI 1))), (3, .int v3_4), (0, .ref a_t), (1, .int x1)]) hx hb dX11_placeOf_34 rfl hl (by decide) rfl (fun ls hl => ?_)
          refine lv_iinc (v := (v3_4 + (nI 1))) (lv' := [(3, .int (v3_4 + (nI 1))), (2, .int (v2_4 + (nI 1))), (0, .ref a_t), (1, .int x1)]) hx hb dX11_placeOf_35 hl (k := 1) rfl rfl (by decide) rfl (fun ls hl => ?_)
          refine lv_goto (tgt := 4) hx hb dX11_placeOf_38 (by decide) ?_
          exact ih4 (v2_4 + (nI 1)) (v3_4 + (nI 1)) _ _ _ h (hP.sub [0, 1] rfl) (hD.sub [0, 1] rfl rfl) hS (lv_sub hl [0, 1, 2, 3] rfl)
  exact L4 N (nI 1) (nI 0) _ _ _ h hP hD hS hl
/-! RunDeskModel.list -/
theorem dX11_list__0 : decode cX11_list_ 0 = .ok (.aload_n 0, 1) := by decide +kernel
theorem dX11_list__1 : decode cX11_list_ 1 = .ok (.iconst 0, 1) := by decide +kernel
theorem dX11_list__2 : decode cX11_list_ 2 = .ok (.putfield 37, 3) := by decide +kernel
theorem dX11_list__5 : decode cX11_list_ 5 = .ok (.aload_n 0, 1) := by decide +kernel
theorem dX11_list__6 : decode cX11_list_ 6 = .ok (.invokevirtual 201, 3) := by decide +kernel
theorem dX11_list__9 : decode cX11_list_ 9 = .ok (.ifCond .eq 24, 3) := by decide +kernel
theorem dX11_list__12 : decode cX11_list_ 12 = .ok (.iload_n 1, 1) := by decide +kernel
theorem dX11_list__13 : decode cX11_list_ 13 = .ok (.ifCond .lt 20, 3) := by decide +kernel
theorem dX11_list__16 : decode cX11_list_ 16 = .ok (.iload_n 1, 1) := by decide +kernel
theorem dX11_list__17 : decode cX11_list_ 17 = .ok (.aload_n 0, 1) := by decide +kernel
theorem dX11_list__18 : decode cX11_list_ 18 = .ok (.getfield 198, 3) := by decide +kernel
theorem dX11_list__21 : decode cX11_list_ 21 = .ok (.if_icmp .ge 12, 3) := by decide +kernel
theorem dX11_list__24 : decode cX11_list_ 24 = .ok (.aload_n 0, 1) := by decide +kernel
theorem dX11_list__25 : decode cX11_list_ 25 = .ok (.getfield 23, 3) := by decide +kernel
theorem dX11_list__28 : decode cX11_list_ 28 = .ok (.iload_n 1, 1) := by decide +kernel
theorem dX11_list__29 : decode cX11_list_ 29 = .ok (.iaload, 1) := by decide +kernel
theorem dX11_list__30 : decode cX11_list_ 30 = .ok (.goto 4, 3) := by decide +kernel
theorem dX11_list__33 : decode cX11_list_ 33 = .ok (.iconst (-1), 1) := by decide +kernel
theorem dX11_list__34 : decode cX11_list_ 34 = .ok (.ireturn, 1) := by decide +kernel
set_option maxRecDepth 20000 in
theorem ggX11_list__X11_list : GoodIn wsX11_list_ wsX11_list := goodIn_sub (List.forall_mem_cons.mpr ⟨List.mem_cons_of_mem _ (List.mem_append_left _ (List.mem_append_left _ (List.mem_of_getElem? (l := wsX11_list__r1) (i := 7) rfl))), (List.forall_mem_append.mpr ⟨(List.forall_mem_append.mpr ⟨(List.forall_mem_cons.mpr ⟨List.mem_cons_of_mem _ (List.mem_append_left _ (List.mem_append_left _ (List.mem_of_getElem? (l := wsX11_list__r1) (i := 8) rfl))), (List.forall_mem_cons.mpr ⟨List.mem_cons_of_mem _ (List.mem_append_left _ (List.mem_append_left _ (List.mem_of_getElem? (l := wsX11_list__r1) (i := 1) rfl))), (List.forall_mem_cons.mpr ⟨List.mem_cons_of_mem _ (List.mem_append_left _ (List.mem_append_left _ (List.mem_of_getElem? (l := wsX11_list__r1) (i := 9) rfl))), (List.forall_mem_cons.mpr ⟨List.mem_cons_of_mem _ (List.mem_append_left _ (List.mem_append_left _ (List.mem_of_getElem? (l := wsX11_list__r1) (i := 10) rfl))), (List.forall_mem_cons.mpr ⟨List.mem_cons_of_mem _ (List.mem_append_left _ (List.mem_append_left _ (List.mem_of_getElem? (l := wsX11_list__r1) (i := 2) rfl))), (List.forall_mem_cons.mpr ⟨List.mem_cons_of_mem _ (List.mem_append_left _ (List.mem_append_left _ (List.mem_of_getElem? (l := wsX11_list__r1) (i := 11) rfl))), (List.forall_mem_cons.mpr ⟨List.mem_cons_of_mem _ (List.mem_append_left _ (List.mem_append_left _ (List.mem_of_getElem? (l := wsX11_list__r1) (i := 12) rfl))), (List.forall_mem_cons.mpr ⟨List.mem_cons_of_mem _ (List.mem_append_left _ (List.mem_append_left _ (List.mem_of_getElem? (l := wsX11_list__r1) (i := 13) rfl))), (List.forall_mem_cons.mpr ⟨List.mem_cons_of_mem _ (List.mem_append_left _ (List.mem_append_left _ (List.mem_of_getElem? (l := wsX11_list__r1) (i := 6) rfl))), (List.forall_mem_cons.mpr ⟨List.mem_cons_of_mem _ (List.mem_append_left _ (List.mem_append_left _ (List.mem_of_getElem? (l := wsX11_list__r1) (i := 14) rfl))), (List.forall_mem_cons.mpr ⟨List.mem_cons_of_mem _ (List.mem_append_left _ (List.mem_append_left _ (List.mem_of_getElem? (l := wsX11_list__r1) (i := 15) rfl))), (List.forall_mem_cons.mpr ⟨List.mem_cons_of_mem _ (List.mem_append_left _ (List.mem_append_left _ (List.mem_of_getElem? (l := wsX11_list__r1) (i := 16) rfl))), (List.forall_mem_cons.mpr ⟨List.mem_cons_of_mem _ (List.mem_append_left _ (List.mem_append_left _ (List.mem_of_getElem? (l := wsX11_list__r1) (i := 17) rfl))), (List.forall_mem_cons.mpr ⟨List.mem_cons_of_mem _ (List.mem_append_left _ (List.mem_append_left _ (List.mem_of_getElem? (l := wsX11_list__r1) (i := 18) rfl))), (List.forall_mem_cons.mpr ⟨List.mem_cons_of_mem _ (List.mem_append_left _ (List.mem_append_left _ (List.mem_of_getElem? (l := wsX11_list__r1) (i := 19) rfl))), (List.forall_mem_cons.mpr ⟨List.mem_cons_of_mem _ (List.mem_append_left _ (List.mem_append_left _ (List.mem_of_getElem? (l := wsX11_list__r1) (i := 20) rfl))), (List.forall_mem_cons.mpr ⟨List.mem_cons_of_mem _ (List.mem_append_left _ (List.mem_append_left _ (List.mem_of_getElem? (l := wsX11_list__r1) (i := 21) rfl))), (List.forall_mem_cons.mpr ⟨List.mem_cons_of_mem _ (List.mem_append_left _ (List.mem_append_left _ (List.mem_of_getElem? (l := wsX11_list__r1) (i := 22) rfl))), (List.forall_mem_cons.mpr ⟨List.mem_cons_of_mem _ (List.mem_append_left _ (List.mem_append_left _ (List.mem_of_getElem? (l := wsX11_list__r1) (i := 23) rfl))), (List.forall_mem_cons.mpr ⟨List.mem_cons_of_mem _ (List.mem_append_left _ (List.mem_append_right _ (List.mem_append_left _ (List.mem_of_getElem? (l := wsX11_list__r2) (i := 0) rfl)))), (List.forall_mem_cons.mpr ⟨List.mem_cons_of_mem _ (List.mem_append_left _ (List.mem_append_right _ (List.mem_append_left _ (List.mem_of_getElem? (l := wsX11_list__r2) (i := 1) rfl)))), (List.forall_mem_cons.mpr ⟨List.mem_cons_of_mem _ (List.mem_append_left _ (List.mem_append_right _ (List.mem_append_left _ (List.mem_of_getElem? (l := wsX11_list__r2) (i := 2) rfl)))), (List.forall_mem_cons.mpr ⟨List.mem_cons_of_mem _ (List.mem_append_left _ (List.mem_append_right _ (List.mem_append_left _ (List.mem_of_getElem? (l := wsX11_list__r2) (i := 3) rfl)))), (List.forall_mem_cons.mpr ⟨List.mem_cons_of_mem _ (List.mem_append_left _ (List.mem_append_right _ (List.mem_append_left _ (List.mem_of_getElem? (l := wsX11_list__r2) (i := 4) rfl)))), (fun _ h => nomatch h)⟩)⟩)⟩)⟩)⟩)⟩)⟩)⟩)⟩)⟩)⟩)⟩)⟩)⟩)⟩)⟩)⟩)⟩)⟩)⟩)⟩)⟩)⟩)⟩), (List.forall_mem_append.mpr ⟨(List.forall_mem_cons.mpr ⟨List.mem_cons_of_mem _ (List.mem_append_left _ (List.mem_append_right _ (List.mem_append_left _ (List.mem_of_getElem? (l := wsX11_list__r2) (i := 5) rfl)))), (List.forall_mem_cons.mpr ⟨List.mem_cons_of_mem _ (List.mem_append_left _ (List.mem_append_right _ (List.mem_append_left _ (List.mem_of_getElem? (l := wsX11_list__r2) (i := 6) rfl)))), (List.forall_mem_cons.mpr ⟨List.mem_cons_of_mem _ (List.mem_append_left _ (List.mem_append_right _ (List.mem_append_left _ (List.mem_of_getElem? (l := wsX11_list__r2) (i := 7) rfl)))), (List.forall_mem_cons.mpr ⟨List.mem_cons_of_mem _ (List.mem_append_left _ (List.mem_append_right _ (List.mem_append_left _ (List.mem_of_getElem? (l := wsX11_list__r2) (i := 8) rfl)))), (List.forall_mem_cons.mpr ⟨List.mem_cons_of_mem _ (List.mem_append_left _ (List.mem_append_right _ (List.mem_append_left _ (List.mem_of_getElem? (l := wsX11_list__r2) (i := 9) rfl)))), (List.forall_mem_cons.mpr ⟨List.mem_cons_of_mem _ (List.mem_append_left _ (List.mem_append_right _ (List.mem_append_left _ (List.mem_of_getElem? (l := wsX11_list__r2) (i := 10) rfl)))), (List.forall_mem_cons.mpr ⟨List.mem_cons_of_mem _ (List.mem_append_left _ (List.mem_append_right _ (List.mem_append_left _ (List.mem_of_getElem? (l := wsX11_list__r2) (i := 11) rfl)))), (List.forall_mem_cons.mpr ⟨List.mem_cons_of_mem _ (List.mem_append_left _ (List.mem_append_right _ (List.mem_append_left _ (List.mem_of_getElem? (l := wsX11_list__r2) (i := 12) rfl)))), (List.forall_mem_cons.mpr ⟨List.mem_cons_of_mem _ (List.mem_append_left _ (List.mem_append_right _ (List.mem_append_left _ (List.mem_of_getElem? (l := wsX11_list__r2) (i := 13) rfl)))), (List.forall_mem_cons.mpr ⟨List.mem_cons_of_mem _ (List.mem_append_left _ (List.mem_append_right _ (List.mem_append_left _ (List.mem_of_getElem? (l := wsX11_list__r2) (i := 14) rfl)))), (List.forall_mem_cons.mpr ⟨List.mem_cons_of_mem _ (List.mem_append_left _ (List.mem_append_right _ (List.mem_append_left _ (List.mem_of_getElem? (l := wsX11_list__r2) (i := 15) rfl)))), (List.forall_mem_cons.mpr ⟨List.mem_cons_of_mem _ (List.mem_append_left _ (List.mem_append_right _ (List.mem_append_left _ (List.mem_of_getElem? (l := wsX11_list__r2) (i := 16) rfl)))), (List.forall_mem_cons.mpr ⟨List.mem_cons_of_mem _ (List.mem_append_left _ (List.mem_append_right _ (List.mem_append_left _ (List.mem_of_getElem? (l := wsX11_list__r2) (i := 17) rfl)))), (List.forall_mem_cons.mpr ⟨List.mem_cons_of_mem _ (List.mem_append_left _ (List.mem_append_right _ (List.mem_append_left _ (List.mem_of_getElem? (l := wsX11_list__r2) (i := 18) rfl)))), (List.forall_mem_cons.mpr ⟨List.mem_cons_of_mem _ (List.mem_append_left _ (List.mem_append_right _ (List.mem_append_left _ (List.mem_of_getElem? (l := wsX11_list__r2) (i := 19) rfl)))), (List.forall_mem_cons.mpr ⟨List.mem_cons_of_mem _ (List.mem_append_left _ (List.mem_append_right _ (List.mem_append_left _ (List.mem_of_getElem? (l := wsX11_list__r2) (i := 20) rfl)))), (List.forall_mem_cons.mpr ⟨List.mem_cons_of_mem _ (List.mem_append_left _ (List.mem_append_right _ (List.mem_append_left _ (List.mem_of_getElem? (l := wsX11_list__r2) (i := 21) rfl)))), (List.forall_mem_cons.mpr ⟨List.mem_cons_of_mem _ (List.mem_append_left _ (List.mem_append_right _ (List.mem_append_left _ (List.mem_of_getElem? (l := wsX11_list__r2) (i := 22) rfl)))), (List.forall_mem_cons.mpr ⟨List.mem_cons_of_mem _ (List.mem_append_left _ (List.mem_append_right _ (List.mem_append_left _ (List.mem_of_getElem? (l := wsX11_list__r2) (i := 23) rfl)))), (List.forall_mem_cons.mpr ⟨List.mem_cons_of_mem _ (List.mem_append_left _ (List.mem_append_right _ (List.mem_append_right _ (List.mem_append_left _ (List.mem_of_getElem? (l := wsX11_list__r3) (i := 0) rfl))))), (List.forall_mem_cons.mpr ⟨List.mem_cons_of_mem _ (List.mem_append_left _ (List.mem_append_right _ (List.mem_append_right _ (List.mem_append_left _ (List.mem_of_getElem? (l := wsX11_list__r3) (i := 1) rfl))))), (List.forall_mem_cons.mpr ⟨List.mem_cons_of_mem _ (List.mem_append_left _ (List.mem_append_right _ (List.mem_append_right _ (List.mem_append_left _ (List.mem_of_getElem? (l := wsX11_list__r3) (i := 2) rfl))))), (List.forall_mem_cons.mpr ⟨List.mem_cons_of_mem _ (List.mem_append_left _ (List.mem_append_right _ (List.mem_append_right _ (List.mem_append_left _ (List.mem_of_getElem? (l := wsX11_list__r3) (i := 3) rfl))))), (List.forall_mem_cons.mpr ⟨List.mem_cons_of_mem _ (List.mem_append_left _ (List.mem_append_right _ (List.mem_append_right _ (List.mem_append_left _ (List.mem_of_getElem? (l := wsX11_list__r3) (i := 4) rfl))))), (fun _ h => nomatch h)⟩)⟩)⟩)⟩)⟩)⟩)⟩)⟩)⟩)⟩)⟩)⟩)⟩)⟩)⟩)⟩)⟩)⟩)⟩)⟩)⟩)⟩)⟩)⟩), (List.forall_mem_append.mpr ⟨(List.forall_mem_cons.mpr ⟨List.mem_cons_of_mem _ (List.mem_append_left _ (List.mem_append_right _ (List.mem_append_right _ (List.mem_append_left _ (List.mem_of_getElem? (l := wsX11_list__r3) (i := 5) rfl))))), (List.forall_mem_cons.mpr ⟨List.mem_cons_of_mem _ (List.mem_append_left _ (List.mem_append_right _ (List.mem_append_right _ (List.mem_append_left _ (List.mem_of_getElem? (l := wsX11_list__r3) (i := 6) rfl))))), (List.forall_mem_cons.mpr ⟨List.mem_cons_of_mem _ (List.mem_append_left _ (List.mem_append_right _ (List.mem_append_right _ (List.mem_append_left _ (List.mem_of_getElem? (l := wsX11_list__r3) (i := 7) rfl))))), (List.forall_mem_cons.mpr ⟨List.mem_cons_of_mem _ (List.mem_append_left _ (List.mem_append_right _ (List.mem_append_right _ (List.mem_append_left _ (List.mem_of_getElem? (l := wsX11_list__r3) (i := 8) rfl))))), (List.forall_mem_cons.mpr ⟨List.mem_cons_of_mem _ (List.mem_append_left _ (List.mem_append_right _ (List.mem_append_right _ (List.mem_append_left _ (List.mem_of_getElem? (l := wsX11_list__r3) (i := 9) rfl))))), (List.forall_mem_cons.mpr ⟨List.mem_cons_of_mem _ (List.mem_append_left _ (List.mem_append_right _ (List.mem_append_right _ (List.mem_append_left _ (List.mem_of_getElem? (l := wsX11_list__r3) (i := 10) rfl))))), (List.forall_mem_cons.mpr ⟨List.mem_cons_of_mem _ (List.mem_append_left _ (List.mem_append_right _ (List.mem_append_right _ (List.mem_append_left _ (List.mem_of_getElem? (l := wsX11_list__r3) (i := 11) rfl))))), (List.forall_mem_cons.mpr ⟨List.mem_cons_of_mem _ (List.mem_append_left _ (List.mem_append_right _ (List.mem_append_right _ (List.mem_append_left _ (List.mem_of_getElem? (l := wsX11_list__r3) (i := 12) rfl))))), (List.forall_mem_cons.mpr ⟨List.mem_cons_of_mem _ (List.mem_append_left _ (List.mem_append_right _ (List.mem_append_right _ (List.mem_append_left _ (List.mem_of_getElem? (l := wsX11_list__r3) (i := 13) rfl))))), (List.forall_mem_cons.mpr ⟨List.mem_cons_of_mem _ (List.mem_append_left _ (List.mem_append_right _ (List.mem_append_right _ (List.mem_append_left _ (List.mem_of_getElem? (l := wsX11_list__r3) (i := 14) rfl))))), (List.forall_mem_cons.mpr ⟨List.mem_cons_of_mem _ (List.mem_append_left _ (List.mem_append_right _ (List.mem_append_right _ (List.mem_append_left _ (List.mem_of_getElem? (l := wsX11_list__r3) (i := 15) rfl))))), (List.forall_mem_cons.mpr ⟨List.mem_cons_of_mem _ (List.mem_append_left _ (List.mem_append_right _ (List.mem_append_right _ (List.mem_append_left _ (List.mem_of_getElem? (l := wsX11_list__r3) (i := 16) rfl))))), (List.forall_mem_cons.mpr ⟨List.mem_cons_of_mem _ (List.mem_append_left _ (List.mem_append_right _ (List.mem_append_right _ (List.mem_append_left _ (List.mem_of_getElem? (l := wsX11_list__r3) (i := 17) rfl))))), (List.forall_mem_cons.mpr ⟨List.mem_cons_of_mem _ (List.mem_append_left _ (List.mem_append_right _ (List.mem_append_right _ (List.mem_append_left _ (List.mem_of_getElem? (l := wsX11_list__r3) (i := 18) rfl))))), (List.forall_mem_cons.mpr ⟨List.mem_cons_of_mem _ (List.mem_append_left _ (List.mem_append_right _ (List.mem_append_right _ (List.mem_append_left _ (List.mem_of_getElem? (l := wsX11_list__r3) (i := 19) rfl))))), (List.forall_mem_cons.mpr ⟨List.mem_cons_of_mem _ (List.mem_append_left _ (List.mem_append_right _ (List.mem_append_right _ (List.mem_append_left _ (List.mem_of_getElem? (l := wsX11_list__r3) (i := 20) rfl))))), (List.forall_mem_cons.mpr ⟨List.mem_cons_of_mem _ (List.mem_append_left _ (List.mem_append_right _ (List.mem_append_right _ (List.mem_append_left _ (List.mem_of_getElem? (l := wsX11_list__r3) (i := 21) rfl))))), (List.forall_mem_cons.mpr ⟨List.mem_cons_of_mem _ (List.mem_append_left _ (List.mem_append_right _ (List.mem_append_right _ (List.mem_append_left _ (List.mem_of_getElem? (l := wsX11_list__r3) (i := 22) rfl))))), (List.forall_mem_cons.mpr ⟨List.mem_cons_of_mem _ (List.mem_append_left _ (List.mem_append_right _ (List.mem_append_right _ (List.mem_append_left _ (List.mem_of_getElem? (l := wsX11_list__r3) (i := 23) rfl))))), (List.forall_mem_cons.mpr ⟨List.mem_cons_of_mem _ (List.mem_append_left _ (List.mem_append_right _ (List.mem_append_right _ (List.mem_append_right _ (List.mem_append_left _ (List.mem_of_getElem? (l := wsX11_list__r4) (i := 0) rfl)))))), (List.forall_mem_cons.mpr ⟨List.mem_cons_of_mem _ (List.mem_append_left _ (List.mem_append_right _ (List.mem_append_right _ (List.mem_append_right _ (List.mem_append_left _ (List.mem_of_getElem? (l := wsX11_list__r4) (i := 1) rfl)))))), (List.forall_mem_cons.mpr ⟨List.mem_cons_of_mem _ (List.mem_append_left _ (List.mem_append_right _ (List.mem_append_right _ (List.mem_append_right _ (List.mem_append_left _ (List.mem_of_getElem? (l := wsX11_list__r4) (i := 2) rfl)))))), (List.forall_mem_cons.mpr ⟨List.mem_cons_of_mem _ (List.mem_append_left _ (List.mem_append_right _ (List.mem_append_right _ (List.mem_append_right _ (List.mem_append_left _ (List.mem_of_getElem? (l := wsX11_list__r4) (i := 3) rfl)))))), (List.forall_mem_cons.mpr ⟨List.mem_cons_of_mem _ (List.mem_append_left _ (List.mem_append_right _ (List.mem_append_right _ (List.mem_append_right _ (List.mem_append_left _ (List.mem_of_getElem? (l := wsX11_list__r4) (i := 4) rfl)))))), (fun _ h => nomatch h)⟩)⟩)⟩)⟩)⟩)⟩)⟩)⟩)⟩)⟩)⟩)⟩)⟩)⟩)⟩)⟩)⟩)⟩)⟩)⟩)⟩)⟩)⟩)⟩), (List.forall_mem_cons.mpr ⟨List.mem_cons_of_mem _ (List.mem_append_left _ (List.mem_append_right _ (List.mem_append_right _ (List.mem_append_right _ (List.mem_append_left _ (List.mem_of_getElem? (l := wsX11_list__r4) (i := 5) rfl)))))), (List.forall_mem_cons.mpr ⟨List.mem_cons_of_mem _ (List.mem_append_left _ (List.mem_append_right _ (List.mem_append_right _ (List.mem_append_right _ (List.mem_append_left _ (List.mem_of_getElem? (l := wsX11_list__r4) (i := 6) rfl)))))), (List.forall_mem_cons.mpr ⟨List.mem_cons_of_mem _ (List.mem_append_left _ (List.mem_append_right _ (List.mem_append_right _ (List.mem_append_right _ (List.mem_append_left _ (List.mem_of_getElem? (l := wsX11_list__r4) (i := 7) rfl)))))), (List.forall_mem_cons.mpr ⟨List.mem_cons_of_mem _ (List.mem_append_left _ (List.mem_append_right _ (List.mem_append_right _ (List.mem_append_right _ (List.mem_append_left _ (List.mem_of_getElem? (l := wsX11_list__r4) (i := 8) rfl)))))), (List.forall_mem_cons.mpr ⟨List.mem_cons_of_mem _ (List.mem_append_left _ (List.mem_append_right _ (List.mem_append_right _ (List.mem_append_right _ (List.mem_append_left _ (List.mem_of_getElem? (l := wsX11_list__r4) (i := 9) rfl)))))), (List.forall_mem_cons.mpr ⟨List.mem_cons_of_mem _ (List.mem_append_left _ (List.mem_append_right _ (List.mem_append_right _ (List.mem_append_right _ (List.mem_append_left _ (List.mem_of_getElem? (l := wsX11_list__r4) (i := 10) rfl)))))), (List.forall_mem_cons.mpr ⟨List.mem_cons_of_mem _ (List.mem_append_left _ (List.mem_append_right _ (List.mem_append_right _ (List.mem_append_right _ (List.mem_append_left _ (List.mem_of_getElem? (l := wsX11_list__r4) (i := 11) rfl)))))), (List.forall_mem_cons.mpr ⟨List.mem_cons_of_mem _ (List.mem_append_left _ (List.mem_append_right _ (List.mem_append_right _ (List.mem_append_right _ (List.mem_append_left _ (List.mem_of_getElem? (l := wsX11_list__r4) (i := 12) rfl)))))), (List.forall_mem_cons.mpr ⟨List.mem_cons_of_mem _ (List.mem_append_left _ (List.mem_append_right _ (List.mem_append_right _ (List.mem_append_right _ (List.mem_append_left _ (List.mem_of_getElem? (l := wsX11_list__r4) (i := 13) rfl)))))), (List.forall_mem_cons.mpr ⟨List.mem_cons_of_mem _ (List.mem_append_left _ (List.mem_append_right _ (List.mem_append_right _ (List.mem_append_right _ (List.mem_append_left _ (List.mem_of_getElem? (l := wsX11_list__r4) (i := 14) rfl)))))), (List.forall_mem_cons.mpr ⟨List.mem_cons_of_mem _ (List.mem_append_left _ (List.mem_append_right _ (List.mem_append_right _ (List.mem_append_right _ (List.mem_append_left _ (List.mem_of_getElem? (l := wsX11_list__r4) (i := 15) rfl)))))), (List.forall_mem_cons.mpr ⟨List.mem_cons_of_mem _ (List.mem_append_left _ (List.mem_append_right _ (List.mem_append_right _ (List.mem_append_right _ (List.mem_append_left _ (List.mem_of_getElem? (l := wsX11_list__r4) (i := 16) rfl)))))), (List.forall_mem_cons.mpr ⟨List.mem_cons_of_mem _ (List.mem_append_left _ (List.mem_append_right _ (List.mem_append_right _ (List.mem_append_right _ (List.mem_append_left _ (List.mem_of_getElem? (l := wsX11_list__r4) (i := 17) rfl)))))), (List.forall_mem_cons.mpr ⟨List.mem_cons_of_mem _ (List.mem_append_left _ (List.mem_append_right _ (List.mem_append_right _ (List.mem_append_right _ (List.mem_append_left _ (List.mem_of_getElem? (l := wsX11_list__r4) (i := 18) rfl)))))), (List.forall_mem_cons.mpr ⟨List.mem_cons_of_mem _ (List.mem_append_left _ (List.mem_append_right _ (List.mem_append_right _ (List.mem_append_right _ (List.mem_append_left _ (List.mem_of_getElem? (l := wsX11_list__r4) (i := 19) rfl)))))), (List.forall_mem_cons.mpr ⟨List.mem_cons_of_mem _ (List.mem_append_left _ (List.mem_append_right _ (List.mem_append_right _ (List.mem_append_right _ (List.mem_append_left _ (List.mem_of_getElem? (l := wsX11_list__r4) (i := 20) rfl)))))), (List.forall_mem_cons.mpr ⟨List.mem_cons_of_mem _ (List.mem_append_left _ (List.mem_append_right _ (List.mem_append_right _ (List.mem_append_right _ (List.mem_append_left _ (List.mem_of_getElem? (l := wsX11_list__r4) (i := 21) rfl)))))), (List.forall_mem_cons.mpr ⟨List.mem_cons_of_mem _ (List.mem_append_left _ (List.mem_append_right _ (List.mem_append_right _ (List.mem_append_right _ (List.mem_append_left _ (List.mem_of_getElem? (l := wsX11_list__r4) (i := 22) rfl)))))), (List.forall_mem_cons.mpr ⟨List.mem_cons_of_mem _ (List.mem_append_left _ (List.mem_append_right _ (List.mem_append_right _ (List.mem_append_right _ (List.mem_append_left _ (List.mem_of_getElem? (l := wsX11_list__r4) (i := 23) rfl)))))), (List.forall_mem_cons.mpr ⟨List.mem_cons_of_mem _ (List.mem_append_left _ (List.mem_append_right _ (List.mem_append_right _ (List.mem_append_right _ (List.mem_append_right _ (List.mem_of_getElem? (l := wsX11_list__r5) (i := 0) rfl)))))), (List.forall_mem_cons.mpr ⟨List.mem_cons_of_mem _ (List.mem_append_left _ (List.mem_append_right _ (List.mem_append_right _ (List.mem_append_right _ (List.mem_append_right _ (List.mem_of_getElem? (l := wsX11_list__r5) (i := 1) rfl)))))), (List.forall_mem_cons.mpr ⟨List.mem_cons_of_mem _ (List.mem_append_left _ (List.mem_append_right _ (List.mem_append_right _ (List.mem_append_right _ (List.mem_append_right _ (List.mem_of_getElem? (l := wsX11_list__r5) (i := 2) rfl)))))), (List.forall_mem_cons.mpr ⟨List.mem_cons_of_mem _ (List.mem_append_left _ (List.mem_append_right _ (List.mem_append_right _ (List.mem_append_right _ (List.mem_append_right _ (List.mem_of_getElem? (l := wsX11_list__r5) (i := 3) rfl)))))), (List.forall_mem_cons.mpr ⟨List.mem_cons_of_mem _ (List.mem_append_left _ (List.mem_append_right _ (List.mem_append_right _ (List.mem_append_right _ (List.mem_append_right _ (List.mem_of_getElem? (l := wsX11_list__r5) (i := 4) rfl)))))), (fun _ h => nomatch h)⟩)⟩)⟩)⟩)⟩)⟩)⟩)⟩)⟩)⟩)⟩)⟩)⟩)⟩)⟩)⟩)⟩)⟩)⟩)⟩)⟩)⟩)⟩)⟩)⟩)⟩)⟩), (fun _ h => List.mem_cons_of_mem _ (List.mem_append_right _ (h)))⟩)⟩) (by decide +kernel)
set_option maxRecDepth 20000 in
theorem gX11_list__X11_list : GoodIn wsX11_list_ (wsV RX11 201 RX11 yX11_list wsX11_list) := goodIn_app (goodIn_of _ (by decide +kernel)) ggX11_list__X11_list
theorem kX11_list__0 : (.fieldLink RX11 37 "RunDeskModel" "thrown" "I" : Cond) ∈ wsX11_list_ := List.mem_of_getElem? (i := 1) (by decide +kernel)
theorem qX11_list__X11 : ∀ w ∈ wsX110, w ∈ wsX11_list_ := fun _ h => List.mem_cons_of_mem _ (List.mem_append_right _ (h))
theorem kX11_list__2 : (.fieldLink RX11 198 "RunDeskModel" "listed" "I" : Cond) ∈ wsX11_list_ := List.mem_of_getElem? (i := 2) (by decide +kernel)
theorem kX11_list__3 : (.fieldLink RX11 23 "RunDeskModel" "order" "[I" : Cond) ∈ wsX11_list_ := List.mem_of_getElem? (i := 3) (by decide +kernel)
set_option maxHeartbeats 4000000 in
set_option maxRecDepth 100000 in
theorem mX11_list_ (l : Launch) (D : va_G) (cB cI cZ : ClassId) (a_t : Nat) (a_t_now : Nat) (a_t_kept : Nat) (a_t_text : Nat) (a_t_passing : Nat) (a_t_order : Nat) (a_t_times : Nat) (t_thrown : Int32) (t_isKept : Int32) (t_length : Int32) (t_at : Int32) (t_fault : Int32) (t_open : Int32) (t_asked : Int32) (t_byGun : Int32) (t_prizeMost : Int32) (t_listed : Int32) (t_now : Nat → Int32) (t_order : Nat → Int32) (t_text : Nat → Int32) (t_times : Nat → Int32) (sz : Nat) (x1 : Int32) (N : Nat) (r0 : Int32) (t_asked' : Int32) (t_at' : Int32) (t_byGun' : Int32) (t_fault' : Int32) (t_listed' : Int32) (t_open' : Int32) (t_prizeMost' : Int32) (t_thrown' : Int32) (t_order' : Nat → Int32) (t_times' : Nat → Int32) (h : fX11_list_ N t_asked t_at t_byGun t_fault t_length t_listed t_open t_prizeMost t_thrown t_now t_order t_text t_times x1 = some (r0, t_asked', t_at', t_byGun', t_fault', t_listed', t_open', t_prizeMost', t_thrown', t_order', t_times')) : Met l yX11_list_ wsX11_list_ ({ frames := 31, cells := 0, slots := 0, locals := 710 } : Room) (va_Pc [.ref a_t, .int x1] (zPre D (zT cB cI cZ) [(a_t, .inr (11, [.int t_thrown, .ref a_t_now, .ref a_t_kept, .int t_isKept, .ref a_t_text, .int t_length, .ref a_t_passing, .int t_at, .int t_fault, .int t_open, .int t_asked, .int t_byGun, .int t_prizeMost, .ref a_t_order, .ref a_t_times, .int t_listed])), (a_t_now, .inl (cI, 1562, .inl t_now)), (a_t_order, .inl (cI, 60, .inl t_order)), (a_t_text, .inl (cB, 200, .inl t_text)), (a_t_times, .inl (cI, 60, .inl t_times))] sz)) (zQi r0 D (zT cB cI cZ) [(a_t, .inr (11, [.int t_thrown', .ref a_t_now, .ref a_t_kept, .int t_isKept, .ref a_t_text, .int t_length, .ref a_t_passing, .int t_at', .int t_fault', .int t_open', .int t_asked', .int t_byGun', .int t_prizeMost', .ref a_t_order, .ref a_t_times, .int t_listed'])), (a_t_now, .inl (cI, 1562, .inl t_now)), (a_t_order, .inl (cI, 60, .inl t_order')), (a_t_text, .inl (cB, 200, .inl t_text)), (a_t_times, .inl (cI, 60, .inl t_times'))] (va_A [(a_t, .inr (11, [.int t_thrown, .ref a_t_now, .ref a_t_kept, .int t_isKept, .ref a_t_text, .int t_length, .ref a_t_passing, .int t_at, .int t_fault, .int t_open, .int t_asked, .int t_byGun, .int t_prizeMost, .ref a_t_order, .ref a_t_times, .int t_listed])), (a_t_now, .inl (cI, 1562, .inl t_now)), (a_t_order, .inl (cI, 60, .inl t_order)), (a_t_text, .inl (cB, 200, .inl t_text)), (a_t_times, .inl (cI, 60, .inl t_times))] sz)) 0 0 (va_A [(a_t, .inr (11, [.int t_thrown, .ref a_t_now, .ref a_t_kept, .int t_isKept, .ref a_t_text, .int t_length, .ref a_t_passing, .int t_at, .int t_fault, .int t_open, .int t_asked, .int t_byGun, .int t_prizeMost, .ref a_t_order, .ref a_t_times, .int t_listed])), (a_t_now, .inl (cI, 1562, .inl t_now)), (a_t_order, .inl (cI, 60, .inl t_order)), (a_t_text, .inl (cB, 200, .inl t_text)), (a_t_times, .inl (cI, 60, .inl t_times))] sz) := by
  refine Met.ofW (cc := cX11_list_) (maxL := 2) (ret := (some .int)) (by decide) rfl ?_
  intro p e s m args below meth c s₁ B hml hv
  obtain ⟨rfl, hsz, hP, hK, hN, hZ, hD0⟩ := hv
  have hx := B.exec
  have hb := B.bytes
  have hr := B.returns
  have hts := atoms_spec (ws := wsX11_list_) B.pre
  have hown : s.vm.findClass RX11 = some m.cls := findClass_of_methodNamed B.named
  have hlocks := B.notSynchronized
  subst hsz
  have hD := hD0.self (sz := s.heap.size)
  generalize hAe : va_A [(a_t, .inr (11, [.int t_thrown, .ref a_t_now, .ref a_t_kept, .int t_isKept, .ref a_t_text, .int t_length, .ref a_t_passing, .int t_at, .int t_fault, .int t_open, .int t_asked, .int t_byGun, .int t_prizeMost, .ref a_t_order, .ref a_t_times, .int t_listed])), (a_t_now, .inl (cI, 1562, .inl t_now)), (a_t_order, .inl (cI, 60, .inl t_order)), (a_t_text, .inl (cB, 200, .inl t_text)), (a_t_times, .inl (cI, 60, .inl t_times))] s.heap.size = A at hD hZ ⊢
  have hA : ∀ q : Nat, s.heap.size ≤ q → A q := fun q h => by rw [← hAe]; exact Or.inr h
  have hS : va_S A s.heap s.heap [] := va_S.rf
  have hl := lv_entry ([.ref a_t, .int x1]) (n := 2) (Nat.le_of_ble_eq_true rfl)
  rw [lg_entry_eq]
  generalize (lg_sl ([.ref a_t, .int x1]) ++ List.replicate (2 - (lg_sl ([.ref a_t, .int x1])).length) Slot.unset).toArray = ls at hl ⊢
  have hl : lv_has ls 2 [(0, .ref a_t), (1, .int x1)] := hl
  unfold fX11_list_ at h
  refine lv_aload_n hx hb dX11_list__0 rfl (lv_at hl 0 rfl) ?_
  refine lv_iconst (v := (nI 0)) hx hb dX11_list__1 rfl ?_
  refine va_put (D := D) (ci := 11) (ty := .int) (C := RX11) (T := TX11) (N := 16) hx hb hts qX11_list__X11 tyX11 tyX11_ok nmX11 hown hK hP hD hS 0 rfl rfl 0 (by decide) (hts _ kX11_list__0) (fun _ h9 => h9) rfl (by decide +kernel) rfl (by first | rfl | exact zz_fit) (Nat.le_of_ble_eq_true rfl) dX11_list__2 (fun H locs hP hD hS => ?_)
  have hP : va_P D vwCl [(a_t, .inr (11, [.int (nI 0), .ref a_t_now, .ref a_t_kept, .int t_isKept, .ref a_t_text, .int t_length, .ref a_t_passing, .int t_at, .int t_fault, .int t_open, .int t_asked, .int t_byGun, .int t_prizeMost, .ref a_t_order, .ref a_t_times, .int t_listed])), (a_t_now, .inl (cI, 1562, .inl t_now)), (a_t_order, .inl (cI, 60, .inl t_order)), (a_t_text, .inl (cB, 200, .inl t_text)), (a_t_times, .inl (cI, 60, .inl t_times))] H := hP
  have hD : va_D A [(a_t, .inr (11, [.int (nI 0), .ref a_t_now, .ref a_t_kept, .int t_isKept, .ref a_t_text, .int t_length, .ref a_t_passing, .int t_at, .int t_fault, .int t_open, .int t_asked, .int t_byGun, .int t_prizeMost, .ref a_t_order, .ref a_t_times, .int t_listed])), (a_t_now, .inl (cI, 1562, .inl t_now)), (a_t_order, .inl (cI, 60, .inl t_order)), (a_t_text, .inl (cB, 200, .inl t_text)), (a_t_times, .inl (cI, 60, .inl t_times))] := hD
  refine lv_aload_n hx hb dX11_list__5 rfl (lv_at hl 0 rfl) ?_
  obtain ⟨⟨b1, t_asked_r2, t_at_r3, t_byGun_r4, t_fault_r5, t_listed_r6, t_open_r7, t_prizeMost_r8, t_order_r9, t_times_r10⟩, e11, h⟩ := zz_b h
  dsimp only at h
  refine zVi (As := []) (rest := []) (C := RX11) (wr := []) [0, 1, 2, 3, 4] [] 0 ⟨hx, hb, hml, hown, hts⟩ (mX11_list l D cB cI cZ a_t a_t_now a_t_kept a_t_text a_t_passing a_t_order a_t_times (nI 0) t_isKept t_length t_at t_fault t_open t_asked t_byGun t_prizeMost t_listed t_now t_order t_text t_times H.size N b1 t_asked_r2 t_at_r3 t_byGun_r4 t_fault_r5 t_listed_r6 t_open_r7 t_prizeMost_r8 t_order_r9 t_times_r10 e11) (cwV 0 hts gX11_list__X11_list rfl rfl rfl (by decide +kernel) ⟨Nat.le_of_ble_eq_true rfl, Nat.le_of_ble_eq_true rfl⟩) hK hN hZ hP hD hS hA rfl rfl rfl rfl rfl rfl rfl rfl hl.1 rfl (lv_room (Nat.le_of_ble_eq_true rfl)) dX11_list__6 ⟨Nat.le_of_ble_eq_true rfl, Nat.le_of_ble_eq_true rfl⟩ (fun H locs hP hD hS => ?_)
  have hP : va_P D vwCl [(a_t, .inr (11, [.int (nI 0), .ref a_t_now, .ref a_t_kept, .int t_isKept, .ref a_t_text, .int t_length, .ref a_t_passing, .int t_at_r3, .int t_fault_r5, .int t_open_r7, .int t_asked_r2, .int t_byGun_r4, .int t_prizeMost_r8, .ref a_t_order, .ref a_t_times, .int t_listed_r6])), (a_t_now, .inl (cI, 1562, .inl t_now)), (a_t_order, .inl (cI, 60, .inl t_order_r9)), (a_t_text, .inl (cB, 200, .inl t_text)), (a_t_times, .inl (cI, 60, .inl t_times_r10))] H := hP
  have hD : va_D A [(a_t, .inr (11, [.int (nI 0), .ref a_t_now, .ref a_t_kept, .int t_isKept, .ref a_t_text, .int t_length, .ref a_t_passing, .int t_at_r3, .int t_fault_r5, .int t_open_r7, .int t_asked_r2, .int t_byGun_r4, .int t_prizeMost_r8, .ref a_t_order, .ref a_t_times, .int t_listed_r6])), (a_t_now, .inl (cI, 1562, .inl t_now)), (a_t_order, .inl (cI, 60, .inl t_order_r9)), (a_t_text, .inl (cB, 200, .inl t_text)), (a_t_times, .inl (cI, 60, .inl t_times_r10))] := hD
  refine lv_if_eq (tgt := 33) hx hb dX11_list__9 (by decide) (fun c12 => ?_) (fun c12 => ?_)
  · have h := zz_t h c12
    refine lv_iconst (v := (-1 : Int32)) hx hb dX11_list__33 rfl ?_
    obtain ⟨j0_, g_⟩ := Prod.mk.inj (Option.some.inj h)
    obtain ⟨j1_, g_⟩ := Prod.mk.inj g_
    obtain ⟨j2_, g_⟩ := Prod.mk.inj g_
    obtain ⟨j3_, g_⟩ := Prod.mk.inj g_
    obtain ⟨j4_, g_⟩ := Prod.mk.inj g_
    obtain ⟨j5_, g_⟩ := Prod.mk.inj g_
    obtain ⟨j6_, g_⟩ := Prod.mk.inj g_
    obtain ⟨j7_, g_⟩ := Prod.mk.inj g_
    obtain ⟨j8_, g_⟩ := Prod.mk.inj g_
    obtain ⟨j9_, g_⟩ := Prod.mk.inj g_
    have j10_ := g_
    subst j0_
    subst j1_
    subst j2_
    subst j3_
    subst j4_
    subst j5_
    subst j6_
    subst j7_
    subst j8_
    subst j9_
    subst j10_
    exact W.iret (v := (-1 : Int32)) hx hb hr (fun t ht hW => ⟨⟨_, (), rfl, rfl, zPost.of hP hD hK ht hW [0, 1, 2, 3, 4] rfl rfl rfl⟩, hS.F ht⟩) hS.2.2 dX11_list__34
  · have h := zz_f h c12
    refine lv_iload_n hx hb dX11_list__12 rfl (lv_at hl 1 rfl) ?_
    refine lv_if_lt (tgt := 33) hx hb dX11_list__13 (by decide) (fun c13 => ?_) (fun c13 => ?_)
    · have h := zz_t h c13
      refine lv_iconst (v := (-1 : Int32)) hx hb dX11_list__33 rfl ?_
      obtain ⟨j0_, g_⟩ := Prod.mk.inj (Option.some.inj h)
      obtain ⟨j1_, g_⟩ := Prod.mk.inj g_
      obtain ⟨j2_, g_⟩ := Prod.mk.inj g_
      obtain ⟨j3_, g_⟩ := Prod.mk.inj g_
      obtain ⟨j4_, g_⟩ := Prod.mk.inj g_
      obtain ⟨j5_, g_⟩ := Prod.mk.inj g_
      obtain ⟨j6_, g_⟩ := Prod.mk.inj g_
      obtain ⟨j7_, g_⟩ := Prod.mk.inj g_
      obtain ⟨j8_, g_⟩ := Prod.mk.inj g_
      obtain ⟨j9_, g_⟩ := Prod.mk.inj g_
      have j10_ := g_
      subst j0_
      subst j1_
      subst j2_
      subst j3_
      subst j4_
      subst j5_
      subst j6_
      subst j7_
      subst j8_
      subst j9_
      subst j10_
      exact W.iret (v := (-1 : Int32)) hx hb hr (fun t ht hW => ⟨⟨_, (), rfl, rfl, zPost.of hP hD hK ht hW [0, 1, 2, 3, 4] rfl rfl rfl⟩, hS.F ht⟩) hS.2.2 dX11_list__34
    · have h := zz_f h c13
      refine lv_iload_n hx hb dX11_list__16 rfl (lv_at hl 1 rfl) ?_
      refine lv_aload_n hx hb dX11_list__17 rfl (lv_at hl 0 rfl) ?_
      refine va_get (D := D) (ci := 11) (C := RX11) (T := TX11) (N := 16) hx hb hts qX11_list__X11 hown hK hP 0 rfl rfl 15 (by decide) (hts _ kX11_list__2) (fun _ h9 => h9) rfl dX11_list__18 ?_
      refine lv_icmp_ge (tgt := 33) hx hb dX11_list__21 (by decide) (fun c14 => ?_) (fun c14 => ?_)
      · have h := zz_t h c14
        refine lv_iconst (v := (-1 : Int32)) hx hb dX11_list__33 rfl ?_
        obtain ⟨j0_, g_⟩ := Prod.mk.inj (Option.some.inj h)
        obtain ⟨j1_, g_⟩ := Prod.mk.inj g_
        obtain ⟨j2_, g_⟩ := Prod.mk.inj g_
        obtain ⟨j3_, g_⟩ := Prod.mk.inj g_
        obtain ⟨j4_, g_⟩ := Prod.mk.inj g_
        obtain ⟨j5_, g_⟩ := Prod.mk.inj g_
        obtain ⟨j6_, g_⟩ := Prod.mk.inj g_
        obtain ⟨j7_, g_⟩ := Prod.mk.inj g_
        obtain ⟨j8_, g_⟩ := Prod.mk.inj g_
        obtain ⟨j9_, g_⟩ := Prod.mk.inj g_
        have j10_ := g_
        subst j0_
        subst j1_
        subst j2_
        subst j3_
        subst j4_
        subst j5_
        subst j6_
        subst j7_
        subst j8_
        subst j9_
        subst j10_
        exact W.iret (v := (-1 : Int32)) hx hb hr (fun t ht hW => ⟨⟨_, (), rfl, rfl, zPost.of hP hD hK ht hW [0, 1, 2, 3, 4] rfl rfl rfl⟩, hS.F ht⟩) hS.2.2 dX11_list__34
      · have h := zz_f h c14
        refine lv_aload_n hx hb dX11_list__24 rfl (lv_at hl 0 rfl) ?_
        refine va_get (D := D) (ci := 11) (C := RX11) (T := TX11) (N := 16) hx hb hts qX11_list__X11 hown hK hP 0 rfl rfl 13 (by decide) (hts _ kX11_list__3) (fun _ h9 => h9) rfl dX11_list__25 ?_
        refine lv_iload_n hx hb dX11_list__28 rfl (lv_at hl 1 rfl) ?_
        obtain ⟨i15, h⟩ := zz_i h
        refine va_iald hx hb hK hP 2 1 rfl rfl i15 dX11_list__29 ?_
        refine lv_goto (tgt := 34) hx hb dX11_list__30 (by decide) ?_
        obtain ⟨j0_, g_⟩ := Prod.mk.inj (Option.some.inj h)
        obtain ⟨j1_, g_⟩ := Prod.mk.inj g_
        obtain ⟨j2_, g_⟩ := Prod.mk.inj g_
        obtain ⟨j3_, g_⟩ := Prod.mk.inj g_
        obtain ⟨j4_, g_⟩ := Prod.mk.inj g_
        obtain ⟨j5_, g_⟩ := Prod.mk.inj g_
        obtain ⟨j6_, g_⟩ := Prod.mk.inj g_
        obtain ⟨j7_, g_⟩ := Prod.mk.inj g_
        obtain ⟨j8_, g_⟩ := Prod.mk.inj g_
        obtain ⟨j9_, g_⟩ := Prod.mk.inj g_
        have j10_ := g_
        subst j0_
        subst j1_
        subst j2_
        subst j3_
        subst j4_
        subst j5_
        subst j6_
        subst j7_
        subst j8_
        subst j9_
        subst j10_
        exact W.iret (v := (t_order_r9 (x1).toNatClampNeg)) hx hb hr (fun t ht hW => ⟨⟨_, (), rfl, rfl, zPost.of hP hD hK ht hW [0, 1, 2, 3, 4] rfl rfl rfl⟩, hS.F ht⟩) hS.2.2 dX11_list__34
/-! RunDeskModel.place -/
theorem dX11_place_0 : decode cX11_place 0 = .ok (.aload_n 0, 1) := by decide +kernel
theorem dX11_place_1 : decode cX11_place 1 = .ok (.iconst 0, 1) := by decide +kernel
theorem dX11_place_2 : decode cX11_place 2 = .ok (.putfield 37, 3) := by decide +kernel
theorem dX11_place_5 : decode cX11_place 5 = .ok (.aload_n 0, 1) := by decide +kernel
theorem dX11_place_6 : decode cX11_place 6 = .ok (.invokevirtual 201, 3) := by decide +kernel
theorem dX11_place_9 : decode cX11_place 9 = .ok (.ifCond .ne 5, 3) := by decide +kernel
theorem dX11_place_12 : decode cX11_place 12 = .ok (.iconst (-1), 1) := by decide +kernel
theorem dX11_place_13 : decode cX11_place 13 = .ok (.ireturn, 1) := by decide +kernel
theorem dX11_place_14 : decode cX11_place 14 = .ok (.iconst 0, 1) := by decide +kernel
theorem dX11_place_15 : decode cX11_place 15 = .ok (.istore_n 2, 1) := by decide +kernel
theorem dX11_place_16 : decode cX11_place 16 = .ok (.iload_n 2, 1) := by decide +kernel
theorem dX11_place_17 : decode cX11_place 17 = .ok (.aload_n 0, 1) := by decide +kernel
theorem dX11_place_18 : decode cX11_place 18 = .ok (.getfield 198, 3) := by decide +kernel
theorem dX11_place_21 : decode cX11_place 21 = .ok (.if_icmp .ge 25, 3) := by decide +kernel
theorem dX11_place_24 : decode cX11_place 24 = .ok (.aload_n 0, 1) := by decide +kernel
theorem dX11_place_25 : decode cX11_place 25 = .ok (.getfield 23, 3) := by decide +kernel
theorem dX11_place_28 : decode cX11_place 28 = .ok (.iload_n 2, 1) := by decide +kernel
theorem dX11_place_29 : decode cX11_place 29 = .ok (.iaload, 1) := by decide +kernel
theorem dX11_place_30 : decode cX11_place 30 = .ok (.iload_n 1, 1) := by decide +kernel
theorem dX11_place_31 : decode cX11_place 31 = .ok (.if_icmp .ne 9, 3) := by decide +kernel
theorem dX11_place_34 : decode cX11_place 34 = .ok (.aload_n 0, 1) := by decide +kernel
theorem dX11_place_35 : decode cX11_place 35 = .ok (.iload_n 2, 1) := by decide +kernel
theorem dX11_place_36 : decode cX11_place 36 = .ok (.invokevirtual 204, 3) := by decide +kernel
theorem dX11_place_39 : decode cX11_place 39 = .ok (.ireturn, 1) := by decide +kernel
theorem dX11_place_40 : decode cX11_place 40 = .ok (.iinc 2 1, 3) := by decide +kernel
theorem dX11_place_43 : decode cX11_place 43 = .ok (.goto (-27), 3) := by decide +kernel
theorem dX11_place_46 : decode cX11_place 46 = .ok (.iconst (-1), 1) := by decide +kernel
theorem dX11_place_47 : decode cX11_place 47 = .ok (.ireturn, 1) := by decide +kernel
set_option maxRecDepth 20000 in
theorem ggX11_place_X11_list : GoodIn wsX11_place wsX11_list := goodIn_sub (List.forall_mem_cons.mpr ⟨List.mem_cons_of_mem _ (List.mem_append_left _ (List.mem_append_left _ (List.mem_of_getElem? (l := wsX11_place_r1) (i := 7) rfl))), (List.forall_mem_append.mpr ⟨(List.forall_mem_append.mpr ⟨(List.forall_mem_cons.mpr ⟨List.mem_cons_of_mem _ (List.mem_append_left _ (List.mem_append_left _ (List.mem_of_getElem? (l := wsX11_place_r1) (i := 8) rfl))), (List.forall_mem_cons.mpr ⟨List.mem_cons_of_mem _ (List.mem_append_left _ (List.mem_append_left _ (List.mem_of_getElem? (l := wsX11_place_r1) (i := 1) rfl))), (List.forall_mem_cons.mpr ⟨List.mem_cons_of_mem _ (List.mem_append_left _ (List.mem_append_left _ (List.mem_of_getElem? (l := wsX11_place_r1) (i := 9) rfl))), (List.forall_mem_cons.mpr ⟨List.mem_cons_of_mem _ (List.mem_append_left _ (List.mem_append_left _ (List.mem_of_getElem? (l := wsX11_place_r1) (i := 10) rfl))), (List.forall_mem_cons.mpr ⟨List.mem_cons_of_mem _ (List.mem_append_left _ (List.mem_append_left _ (List.mem_of_getElem? (l := wsX11_place_r1) (i := 2) rfl))), (List.forall_mem_cons.mpr ⟨List.mem_cons_of_mem _ (List.mem_append_left _ (List.mem_append_left _ (List.mem_of_getElem? (l := wsX11_place_r1) (i := 11) rfl))), (List.forall_mem_cons.mpr ⟨List.mem_cons_of_mem _ (List.mem_append_left _ (List.mem_append_left _ (List.mem_of_getElem? (l := wsX11_place_r1) (i := 12) rfl))), (List.forall_mem_cons.mpr ⟨List.mem_cons_of_mem _ (List.mem_append_left _ (List.mem_append_left _ (List.mem_of_getElem? (l := wsX11_place_r1) (i := 13) rfl))), (List.forall_mem_cons.mpr ⟨List.mem_cons_of_mem _ (List.mem_append_left _ (List.mem_append_left _ (List.mem_of_getElem? (l := wsX11_place_r1) (i := 6) rfl))), (List.forall_mem_cons.mpr ⟨List.mem_cons_of_mem _ (List.mem_append_left _ (List.mem_append_left _ (List.mem_of_getElem? (l := wsX11_place_r1) (i := 14) rfl))), (List.forall_mem_cons.mpr ⟨List.mem_cons_of_mem _ (List.mem_append_left _ (List.mem_append_left _ (List.mem_of_getElem? (l := wsX11_place_r1) (i := 15) rfl))), (List.forall_mem_cons.mpr ⟨List.mem_cons_of_mem _ (List.mem_append_left _ (List.mem_append_left _ (List.mem_of_getElem? (l := wsX11_place_r1) (i := 16) rfl))), (List.forall_mem_cons.mpr ⟨List.mem_cons_of_mem _ (List.mem_append_left _ (List.mem_append_left _ (List.mem_of_getElem? (l := wsX11_place_r1) (i := 17) rfl))), (List.forall_mem_cons.mpr ⟨List.mem_cons_of_mem _ (List.mem_append_left _ (List.mem_append_left _ (List.mem_of_getElem? (l := wsX11_place_r1) (i := 18) rfl))), (List.forall_mem_cons.mpr ⟨List.mem_cons_of_mem _ (List.mem_append_left _ (List.mem_append_left _ (List.mem_of_getElem? (l := wsX11_place_r1) (i := 19) rfl))), (List.forall_mem_cons.mpr ⟨List.mem_cons_of_mem _ (List.mem_append_left _ (List.mem_append_left _ (List.mem_of_getElem? (l := wsX11_place_r1) (i := 20) rfl))), (List.forall_mem_cons.mpr ⟨List.mem_cons_of_mem _ (List.mem_append_left _ (List.mem_append_left _ (List.mem_of_getElem? (l := wsX11_place_r1) (i := 21) rfl))), (List.forall_mem_cons.mpr ⟨List.mem_cons_of_mem _ (List.mem_append_left _ (List.mem_append_left _ (List.mem_of_getElem? (l := wsX11_place_r1) (i := 22) rfl))), (List.forall_mem_cons.mpr ⟨List.mem_cons_of_mem _ (List.mem_append_left _ (List.mem_append_left _ (List.mem_of_getElem? (l := wsX11_place_r1) (i := 23) rfl))), (List.forall_mem_cons.mpr ⟨List.mem_cons_of_mem _ (List.mem_append_left _ (List.mem_append_right _ (List.mem_append_left _ (List.mem_of_getElem? (l := wsX11_place_r2) (i := 0) rfl)))), (List.forall_mem_cons.mpr ⟨List.mem_cons_of_mem _ (List.mem_append_left _ (List.mem_append_right _ (List.mem_append_left _ (List.mem_of_getElem? (l := wsX11_place_r2) (i := 1) rfl)))), (List.forall_mem_cons.mpr ⟨List.mem_cons_of_mem _ (List.mem_append_left _ (List.mem_append_right _ (List.mem_append_left _ (List.mem_of_getElem? (l := wsX11_place_r2) (i := 2) rfl)))), (List.forall_mem_cons.mpr ⟨List.mem_cons_of_mem _ (List.mem_append_left _ (List.mem_append_right _ (List.mem_append_left _ (List.mem_of_getElem? (l := wsX11_place_r2) (i := 3) rfl)))), (List.forall_mem_cons.mpr ⟨List.mem_cons_of_mem _ (List.mem_append_left _ (List.mem_append_right _ (List.mem_append_left _ (List.mem_of_getElem? (l := wsX11_place_r2) (i := 4) rfl)))), (fun _ h => nomatch h)⟩)⟩)⟩)⟩)⟩)⟩)⟩)⟩)⟩)⟩)⟩)⟩)⟩)⟩)⟩)⟩)⟩)⟩)⟩)⟩)⟩)⟩)⟩)⟩), (List.forall_mem_append.mpr ⟨(List.forall_mem_cons.mpr ⟨List.mem_cons_of_mem _ (List.mem_append_left _ (List.mem_append_right _ (List.mem_append_left _ (List.mem_of_getElem? (l := wsX11_place_r2) (i := 5) rfl)))), (List.forall_mem_cons.mpr ⟨List.mem_cons_of_mem _ (List.mem_append_left _ (List.mem_append_right _ (List.mem_append_left _ (List.mem_of_getElem? (l := wsX11_place_r2) (i := 6) rfl)))), (List.forall_mem_cons.mpr ⟨List.mem_cons_of_mem _ (List.mem_append_left _ (List.mem_append_right _ (List.mem_append_left _ (List.mem_of_getElem? (l := wsX11_place_r2) (i := 7) rfl)))), (List.forall_mem_cons.mpr ⟨List.mem_cons_of_mem _ (List.mem_append_left _ (List.mem_append_right _ (List.mem_append_left _ (List.mem_of_getElem? (l := wsX11_place_r2) (i := 8) rfl)))), (List.forall_mem_cons.mpr ⟨List.mem_cons_of_mem _ (List.mem_append_left _ (List.mem_append_right _ (List.mem_append_left _ (List.mem_of_getElem? (l := wsX11_place_r2) (i := 9) rfl)))), (List.forall_mem_cons.mpr ⟨List.mem_cons_of_mem _ (List.mem_append_left _ (List.mem_append_right _ (List.mem_append_left _ (List.mem_of_getElem? (l := wsX11_place_r2) (i := 10) rfl)))), (List.forall_mem_cons.mpr ⟨List.mem_cons_of_mem _ (List.mem_append_left _ (List.mem_append_right _ (List.mem_append_left _ (List.mem_of_getElem? (l := wsX11_place_r2) (i := 11) rfl)))), (List.forall_mem_cons.mpr ⟨List.mem_cons_of_mem _ (List.mem_append_left _ (List.mem_append_right _ (List.mem_append_left _ (List.mem_of_getElem? (l := wsX11_place_r2) (i := 12) rfl)))), (List.forall_mem_cons.mpr ⟨List.mem_cons_of_mem _ (List.mem_append_left _ (List.mem_append_right _ (List.mem_append_left _ (List.mem_of_getElem? (l := wsX11_place_r2) (i := 13) rfl)))), (List.forall_mem_cons.mpr ⟨List.mem_cons_of_mem _ (List.mem_append_left _ (List.mem_append_right _ (List.mem_append_left _ (List.mem_of_getElem? (l := wsX11_place_r2) (i := 14) rfl)))), (List.forall_mem_cons.mpr ⟨List.mem_cons_of_mem _ (List.mem_append_left _ (List.mem_append_right _ (List.mem_append_left _ (List.mem_of_getElem? (l := wsX11_place_r2) (i := 15) rfl)))), (List.forall_mem_cons.mpr ⟨List.mem_cons_of_mem _ (List.mem_append_left _ (List.mem_append_right _ (List.mem_append_left _ (List.mem_of_getElem? (l := wsX11_place_r2) (i := 16) rfl)))), (List.forall_mem_cons.mpr ⟨List.mem_cons_of_mem _ (List.mem_append_left _ (List.mem_append_right _ (List.mem_append_left _ (List.mem_of_getElem? (l := wsX11_place_r2) (i := 17) rfl)))), (List.forall_mem_cons.mpr ⟨List.mem_cons_of_mem _ (List.mem_append_left _ (List.mem_append_right _ (List.mem_append_left _ (List.mem_of_getElem? (l := wsX11_place_r2) (i := 18) rfl)))), (List.forall_mem_cons.mpr ⟨List.mem_cons_of_mem _ (List.mem_append_left _ (List.mem_append_right _ (List.mem_append_left _ (List.mem_of_getElem? (l := wsX11_place_r2) (i := 19) rfl)))), (List.forall_mem_cons.mpr ⟨List.mem_cons_of_mem _ (List.mem_append_left _ (List.mem_append_right _ (List.mem_append_left _ (List.mem_of_getElem? (l := wsX11_place_r2) (i := 20) rfl)))), (List.forall_mem_cons.mpr ⟨List.mem_cons_of_mem _ (List.mem_append_left _ (List.mem_append_right _ (List.mem_append_left _ (List.mem_of_getElem? (l := wsX11_place_r2) (i := 21) rfl)))), (List.forall_mem_cons.mpr ⟨List.mem_cons_of_mem _ (List.mem_append_left _ (List.mem_append_right _ (List.mem_append_left _ (List.mem_of_getElem? (l := wsX11_place_r2) (i := 22) rfl)))), (List.forall_mem_cons.mpr ⟨List.mem_cons_of_mem _ (List.mem_append_left _ (List.mem_append_right _ (List.mem_append_left _ (List.mem_of_getElem? (l := wsX11_place_r2) (i := 23) rfl)))), (List.forall_mem_cons.mpr ⟨List.mem_cons_of_mem _ (List.mem_append_left _ (List.mem_append_right _ (List.mem_append_right _ (List.mem_append_left _ (List.mem_of_getElem? (l := wsX11_place_r3) (i := 0) rfl))))), (List.forall_mem_cons.mpr ⟨List.mem_cons_of_mem _ (List.mem_append_left _ (List.mem_append_right _ (List.mem_append_right _ (List.mem_append_left _ (List.mem_of_getElem? (l := wsX11_place_r3) (i := 1) rfl))))), (List.forall_mem_cons.mpr ⟨List.mem_cons_of_mem _ (List.mem_append_left _ (List.mem_append_right _ (List.mem_append_right _ (List.mem_append_left _ (List.mem_of_getElem? (l := wsX11_place_r3) (i := 2) rfl))))), (List.forall_mem_cons.mpr ⟨List.mem_cons_of_mem _ (List.mem_append_left _ (List.mem_append_right _ (List.mem_append_right _ (List.mem_append_left _ (List.mem_of_getElem? (l := wsX11_place_r3) (i := 3) rfl))))), (List.forall_mem_cons.mpr ⟨List.mem_cons_of_mem _ (List.mem_append_left _ (List.mem_append_right _ (List.mem_append_right _ (List.mem_append_left _ (List.mem_of_getElem? (l := wsX11_place_r3) (i := 4) rfl))))), (fun _ h => nomatch h)⟩)⟩)⟩)⟩)⟩)⟩)⟩)⟩)⟩)⟩)⟩)⟩)⟩)⟩)⟩)⟩)⟩)⟩)⟩)⟩)⟩)⟩)⟩)⟩), (List.forall_mem_append.mpr ⟨(List.forall_mem_cons.mpr ⟨List.mem_cons_of_mem _ (List.mem_append_left _ (List.mem_append_right _ (List.mem_append_right _ (List.mem_append_left _ (List.mem_of_getElem? (l := wsX11_place_r3) (i := 5) rfl))))), (List.forall_mem_cons.mpr ⟨List.mem_cons_of_mem _ (List.mem_append_left _ (List.mem_append_right _ (List.mem_append_right _ (List.mem_append_left _ (List.mem_of_getElem? (l := wsX11_place_r3) (i := 6) rfl))))), (List.forall_mem_cons.mpr ⟨List.mem_cons_of_mem _ (List.mem_append_left _ (List.mem_append_right _ (List.mem_append_right _ (List.mem_append_left _ (List.mem_of_getElem? (l := wsX11_place_r3) (i := 7) rfl))))), (List.forall_mem_cons.mpr ⟨List.mem_cons_of_mem _ (List.mem_append_left _ (List.mem_append_right _ (List.mem_append_right _ (List.mem_append_left _ (List.mem_of_getElem? (l := wsX11_place_r3) (i := 8) rfl))))), (List.forall_mem_cons.mpr ⟨List.mem_cons_of_mem _ (List.mem_append_left _ (List.mem_append_right _ (List.mem_append_right _ (List.mem_append_left _ (List.mem_of_getElem? (l := wsX11_place_r3) (i := 9) rfl))))), (List.forall_mem_cons.mpr ⟨List.mem_cons_of_mem _ (List.mem_append_left _ (List.mem_append_right _ (List.mem_append_right _ (List.mem_append_left _ (List.mem_of_getElem? (l := wsX11_place_r3) (i := 10) rfl))))), (List.forall_mem_cons.mpr ⟨List.mem_cons_of_mem _ (List.mem_append_left _ (List.mem_append_right _ (List.mem_append_right _ (List.mem_append_left _ (List.mem_of_getElem? (l := wsX11_place_r3) (i := 11) rfl))))), (List.forall_mem_cons.mpr ⟨List.mem_cons_of_mem _ (List.mem_append_left _ (List.mem_append_right _ (List.mem_append_right _ (List.mem_append_left _ (List.mem_of_getElem? (l := wsX11_place_r3) (i := 12) rfl))))), (List.forall_mem_cons.mpr ⟨List.mem_cons_of_mem _ (List.mem_append_left _ (List.mem_append_right _ (List.mem_append_right _ (List.mem_append_left _ (List.mem_of_getElem? (l := wsX11_place_r3) (i := 13) rfl))))), (List.forall_mem_cons.mpr ⟨List.mem_cons_of_mem _ (List.mem_append_left _ (List.mem_append_right _ (List.mem_append_right _ (List.mem_append_left _ (List.mem_of_getElem? (l := wsX11_place_r3) (i := 14) rfl))))), (List.forall_mem_cons.mpr ⟨List.mem_cons_of_mem _ (List.mem_append_left _ (List.mem_append_right _ (List.mem_append_right _ (List.mem_append_left _ (List.mem_of_getElem? (l := wsX11_place_r3) (i := 15) rfl))))), (List.forall_mem_cons.mpr ⟨List.mem_cons_of_mem _ (List.mem_append_left _ (List.mem_append_right _ (List.mem_append_right _ (List.mem_append_left _ (List.mem_of_getElem? (l := wsX11_place_r3) (i := 16) rfl))))), (List.forall_mem_cons.mpr ⟨List.mem_cons_of_mem _ (List.mem_append_left _ (List.mem_append_right _ (List.mem_append_right _ (List.mem_append_left _ (List.mem_of_getElem? (l := wsX11_place_r3) (i := 17) rfl))))), (List.forall_mem_cons.mpr ⟨List.mem_cons_of_mem _ (List.mem_append_left _ (List.mem_append_right _ (List.mem_append_right _ (List.mem_append_left _ (List.mem_of_getElem? (l := wsX11_place_r3) (i := 18) rfl))))), (List.forall_mem_cons.mpr ⟨List.mem_cons_of_mem _ (List.mem_append_left _ (List.mem_append_right _ (List.mem_append_right _ (List.mem_append_left _ (List.mem_of_getElem? (l := wsX11_place_r3) (i := 19) rfl))))), (List.forall_mem_cons.mpr ⟨List.mem_cons_of_mem _ (List.mem_append_left _ (List.mem_append_right _ (List.mem_append_right _ (List.mem_append_left _ (List.mem_of_getElem? (l := wsX11_place_r3) (i := 20) rfl))))), (List.forall_mem_cons.mpr ⟨List.mem_cons_of_mem _ (List.mem_append_left _ (List.mem_append_right _ (List.mem_append_right _ (List.mem_append_left _ (List.mem_of_getElem? (l := wsX11_place_r3) (i := 21) rfl))))), (List.forall_mem_cons.mpr ⟨List.mem_cons_of_mem _ (List.mem_append_left _ (List.mem_append_right _ (List.mem_append_right _ (List.mem_append_left _ (List.mem_of_getElem? (l := wsX11_place_r3) (i := 22) rfl))))), (List.forall_mem_cons.mpr ⟨List.mem_cons_of_mem _ (List.mem_append_left _ (List.mem_append_right _ (List.mem_append_right _ (List.mem_append_left _ (List.mem_of_getElem? (l := wsX11_place_r3) (i := 23) rfl))))), (List.forall_mem_cons.mpr ⟨List.mem_cons_of_mem _ (List.mem_append_left _ (List.mem_append_right _ (List.mem_append_right _ (List.mem_append_right _ (List.mem_append_left _ (List.mem_of_getElem? (l := wsX11_place_r4) (i := 0) rfl)))))), (List.forall_mem_cons.mpr ⟨List.mem_cons_of_mem _ (List.mem_append_left _ (List.mem_append_right _ (List.mem_append_right _ (List.mem_append_right _ (List.mem_append_left _ (List.mem_of_getElem? (l := wsX11_place_r4) (i := 1) rfl)))))), (List.forall_mem_cons.mpr ⟨List.mem_cons_of_mem _ (List.mem_append_left _ (List.mem_append_right _ (List.mem_append_right _ (List.mem_append_right _ (List.mem_append_left _ (List.mem_of_getElem? (l := wsX11_place_r4) (i := 2) rfl)))))), (List.forall_mem_cons.mpr ⟨List.mem_cons_of_mem _ (List.mem_append_left _ (List.mem_append_right _ (List.mem_append_right _ (List.mem_append_right _ (List.mem_append_left _ (List.mem_of_getElem? (l := wsX11_place_r4) (i := 3) rfl)))))), (List.forall_mem_cons.mpr ⟨List.mem_cons_of_mem _ (List.mem_append_left _ (List.mem_append_right _ (List.mem_append_right _ (List.mem_append_right _ (List.mem_append_left _ (List.mem_of_getElem? (l := wsX11_place_r4) (i := 4) rfl)))))), (fun _ h => nomatch h)⟩)⟩)⟩)⟩)⟩)⟩)⟩)⟩)⟩)⟩)⟩)⟩)⟩)⟩)⟩)⟩)⟩)⟩)⟩)⟩)⟩)⟩)⟩)⟩), (List.forall_mem_cons.mpr ⟨List.mem_cons_of_mem _ (List.mem_append_left _ (List.mem_append_right _ (List.mem_append_right _ (List.mem_append_right _ (List.mem_append_left _ (List.mem_of_getElem? (l := wsX11_place_r4) (i := 5) rfl)))))), (List.forall_mem_cons.mpr ⟨List.mem_cons_of_mem _ (List.mem_append_left _ (List.mem_append_right _ (List.mem_append_right _ (List.mem_append_right _ (List.mem_append_left _ (List.mem_of_getElem? (l := wsX11_place_r4) (i := 6) rfl)))))), (List.forall_mem_cons.mpr ⟨List.mem_cons_of_mem _ (List.mem_append_left _ (List.mem_append_right _ (List.mem_append_right _ (List.mem_append_right _ (List.mem_append_left _ (List.mem_of_getElem? (l := wsX11_place_r4) (i := 7) rfl)))))), (List.forall_mem_cons.mpr ⟨List.mem_cons_of_mem _ (List.mem_append_left _ (List.mem_append_right _ (List.mem_append_right _ (List.mem_append_right _ (List.mem_append_left _ (List.mem_of_getElem? (l := wsX11_place_r4) (i := 8) rfl)))))), (List.forall_mem_cons.mpr ⟨List.mem_cons_of_mem _ (List.mem_append_left _ (List.mem_append_right _ (List.mem_append_right _ (List.mem_append_right _ (List.mem_append_left _ (List.mem_of_getElem? (l := wsX11_place_r4) (i := 9) rfl)))))), (List.forall_mem_cons.mpr ⟨List.mem_cons_of_mem _ (List.mem_append_left _ (List.mem_append_right _ (List.mem_append_right _ (List.mem_append_right _ (List.mem_append_left _ (List.mem_of_getElem? (l := wsX11_place_r4) (i := 10) rfl)))))), (List.forall_mem_cons.mpr ⟨List.mem_cons_of_mem _ (List.mem_append_left _ (List.mem_append_right _ (List.mem_append_right _ (List.mem_append_right _ (List.mem_append_left _ (List.mem_of_getElem? (l := wsX11_place_r4) (i := 11) rfl)))))), (List.forall_mem_cons.mpr ⟨List.mem_cons_of_mem _ (List.mem_append_left _ (List.mem_append_right _ (List.mem_append_right _ (List.mem_append_right _ (List.mem_append_left _ (List.mem_of_getElem? (l := wsX11_place_r4) (i := 12) rfl)))))), (List.forall_mem_cons.mpr ⟨List.mem_cons_of_mem _ (List.mem_append_left _ (List.mem_append_right _ (List.mem_append_right _ (List.mem_append_right _ (List.mem_append_left _ (List.mem_of_getElem? (l := wsX11_place_r4) (i := 13) rfl)))))), (List.forall_mem_cons.mpr ⟨List.mem_cons_of_mem _ (List.mem_append_left _ (List.mem_append_right _ (List.mem_append_right _ (List.mem_append_right _ (List.mem_append_left _ (List.mem_of_getElem? (l := wsX11_place_r4) (i := 14) rfl)))))), (List.forall_mem_cons.mpr ⟨List.mem_cons_of_mem _ (List.mem_append_left _ (List.mem_append_right _ (List.mem_append_right _ (List.mem_append_right _ (List.mem_append_left _ (List.mem_of_getElem? (l := wsX11_place_r4) (i := 15) rfl)))))), (List.forall_mem_cons.mpr ⟨List.mem_cons_of_mem _ (List.mem_append_left _ (List.mem_append_right _ (List.mem_append_right _ (List.mem_append_right _ (List.mem_append_left _ (List.mem_of_getElem? (l := wsX11_place_r4) (i := 16) rfl)))))), (List.forall_mem_cons.mpr ⟨List.mem_cons_of_mem _ (List.mem_append_left _ (List.mem_append_right _ (List.mem_append_right _ (List.mem_append_right _ (List.mem_append_left _ (List.mem_of_getElem? (l := wsX11_place_r4) (i := 17) rfl)))))), (List.forall_mem_cons.mpr ⟨List.mem_cons_of_mem _ (List.mem_append_left _ (List.mem_append_right _ (List.mem_append_right _ (List.mem_append_right _ (List.mem_append_left _ (List.mem_of_getElem? (l := wsX11_place_r4) (i := 18) rfl)))))), (List.forall_mem_cons.mpr ⟨List.mem_cons_of_mem _ (List.mem_append_left _ (List.mem_append_right _ (List.mem_append_right _ (List.mem_append_right _ (List.mem_append_left _ (List.mem_of_getElem? (l := wsX11_place_r4) (i := 19) rfl)))))), (List.forall_mem_cons.mpr ⟨List.mem_cons_of_mem _ (List.mem_append_left _ (List.mem_append_right _ (List.mem_append_right _ (List.mem_append_right _ (List.mem_append_left _ (List.mem_of_getElem? (l := wsX11_place_r4) (i := 20) rfl)))))), (List.forall_mem_cons.mpr ⟨List.mem_cons_of_mem _ (List.mem_append_left _ (List.mem_append_right _ (List.mem_append_right _ (List.mem_append_right _ (List.mem_append_left _ (List.mem_of_getElem? (l := wsX11_place_r4) (i := 21) rfl)))))), (List.forall_mem_cons.mpr ⟨List.mem_cons_of_mem _ (List.mem_append_left _ (List.mem_append_right _ (List.mem_append_right _ (List.mem_append_right _ (List.mem_append_left _ (List.mem_of_getElem? (l := wsX11_place_r4) (i := 22) rfl)))))), (List.forall_mem_cons.mpr ⟨List.mem_cons_of_mem _ (List.mem_append_left _ (List.mem_append_right _ (List.mem_append_right _ (List.mem_append_right _ (List.mem_append_left _ (List.mem_of_getElem? (l := wsX11_place_r4) (i := 23) rfl)))))), (List.forall_mem_cons.mpr ⟨List.mem_cons_of_mem _ (List.mem_append_left _ (List.mem_append_right _ (List.mem_append_right _ (List.mem_append_right _ (List.mem_append_right _ (List.mem_of_getElem? (l := wsX11_place_r5) (i := 0) rfl)))))), (List.forall_mem_cons.mpr ⟨List.mem_cons_of_mem _ (List.mem_append_left _ (List.mem_append_right _ (List.mem_append_right _ (List.mem_append_right _ (List.mem_append_right _ (List.mem_of_getElem? (l := wsX11_place_r5) (i := 1) rfl)))))), (List.forall_mem_cons.mpr ⟨List.mem_cons_of_mem _ (List.mem_append_left _ (List.mem_append_right _ (List.mem_append_right _ (List.mem_append_right _ (List.mem_append_right _ (List.mem_of_getElem? (l := wsX11_place_r5) (i := 2) rfl)))))), (List.forall_mem_cons.mpr ⟨List.mem_cons_of_mem _ (List.mem_append_left _ (List.mem_append_right _ (List.mem_append_right _ (List.mem_append_right _ (List.mem_append_right _ (List.mem_of_getElem? (l := wsX11_place_r5) (i := 3) rfl)))))), (List.forall_mem_cons.mpr ⟨List.mem_cons_of_mem _ (List.mem_append_left _ (List.mem_append_right _ (List.mem_append_right _ (List.mem_append_right _ (List.mem_append_right _ (List.mem_of_getElem? (l := wsX11_place_r5) (i := 4) rfl)))))), (fun _ h => nomatch h)⟩)⟩)⟩)⟩)⟩)⟩)⟩)⟩)⟩)⟩)⟩)⟩)⟩)⟩)⟩)⟩)⟩)⟩)⟩)⟩)⟩)⟩)⟩)⟩)⟩)⟩)⟩), (fun _ h => List.mem_cons_of_mem _ (List.mem_append_right _ (h)))⟩)⟩) (by decide +kernel)
set_option maxRecDepth 20000 in
theorem gX11_place_X11_list : GoodIn wsX11_place (wsV RX11 201 RX11 yX11_list wsX11_list) := goodIn_app (goodIn_of _ (by decide +kernel)) ggX11_place_X11_list
set_option maxRecDepth 20000 in
theorem ggX11_place_X11_placeOf : GoodIn wsX11_place wsX11_placeOf := goodIn_sub (List.forall_mem_cons.mpr ⟨List.mem_cons_of_mem _ (List.mem_append_left _ (List.mem_append_right _ (List.mem_append_right _ (List.mem_append_right _ (List.mem_append_right _ (List.mem_of_getElem? (l := wsX11_place_r5) (i := 8) rfl)))))), (List.forall_mem_append.mpr ⟨(List.forall_mem_cons.mpr ⟨List.mem_cons_of_mem _ (List.mem_append_left _ (List.mem_append_left _ (List.mem_of_getElem? (l := wsX11_place_r1) (i := 1) rfl))), (List.forall_mem_cons.mpr ⟨List.mem_cons_of_mem _ (List.mem_append_left _ (List.mem_append_left _ (List.mem_of_getElem? (l := wsX11_place_r1) (i := 10) rfl))), (fun _ h => nomatch h)⟩)⟩), (fun _ h => List.mem_cons_of_mem _ (List.mem_append_right _ (h)))⟩)⟩) (by decide +kernel)
set_option maxRecDepth 20000 in
theorem gX11_place_X11_placeOf : GoodIn wsX11_place (wsV RX11 204 RX11 yX11_placeOf wsX11_placeOf) := goodIn_app (goodIn_of _ (by decide +kernel)) ggX11_place_X11_placeOf
theorem kX11_place_0 : (.fieldLink RX11 37 "RunDeskModel" "thrown" "I" : Cond) ∈ wsX11_place := List.mem_of_getElem? (i := 1) (by decide +kernel)
theorem qX11_place_X11 : ∀ w ∈ wsX110, w ∈ wsX11_place := fun _ h => List.mem_cons_of_mem _ (List.mem_append_right _ (h))
theorem kX11_place_2 : (.fieldLink RX11 198 "RunDeskModel" "listed" "I" : Cond) ∈ wsX11_place := List.mem_of_getElem? (i := 2) (by decide +kernel)
theorem kX11_place_3 : (.fieldLink RX11 23 "RunDeskModel" "order" "[I" : Cond) ∈ wsX11_place := List.mem_of_getElem? (i := 3) (by decide +kernel)
set_option maxHeartbeats 4000000 in
set_option maxRecDepth 100000 in
theorem mX11_place (l : Launch) (D : va_G) (cB cI cZ : ClassId) (a_t : Nat) (a_t_now : Nat) (a_t_kept : Nat) (a_t_text : Nat) (a_t_passing : Nat) (a_t_order : Nat) (a_t_times : Nat) (t_thrown : Int32) (t_isKept : Int32) (t_length : Int32) (t_at : Int32) (t_fault : Int32) (t_open : Int32) (t_asked : Int32) (t_byGun : Int32) (t_prizeMost : Int32) (t_listed : Int32) (t_now : Nat → Int32) (t_order : Nat → Int32) (t_text : Nat → Int32) (t_times : Nat → Int32) (sz : Nat) (x1 : Int32) (N : Nat) (r0 : Int32) (t_asked' : Int32) (t_at' : Int32) (t_byGun' : Int32) (t_fault' : Int32) (t_listed' : Int32) (t_open' : Int32) (t_prizeMost' : Int32) (t_thrown' : Int32) (t_order' : Nat → Int32) (t_times' : Nat → Int32) (h : fX11_place N t_asked t_at t_byGun t_fault t_length t_listed t_open t_prizeMost t_thrown t_now t_order t_text t_times x1 = some (r0, t_asked', t_at', t_byGun', t_fault', t_listed', t_open', t_prizeMost', t_thrown', t_order', t_times')) : Met l yX11_place wsX11_place ({ frames := 31, cells := 0, slots := 0, locals := 710 } : Room) (va_Pc [.ref a_t, .int x1] (zPre D (zT cB cI cZ) [(a_t, .inr (11, [.int t_thrown, .ref a_t_now, .ref a_t_kept, .int t_isKept, .ref a_t_text, .int t_length, .ref a_t_passing, .int t_at, .int t_fault, .int t_open, .int t_asked, .int t_byGun, .int t_prizeMost, .ref a_t_order, .ref a_t_times, .int t_listed])), (a_t_now, .inl (cI, 1562, .inl t_now)), (a_t_order, .inl (cI, 60, .inl t_order)), (a_t_text, .inl (cB, 200, .inl t_text)), (a_t_times, .inl (cI, 60, .inl t_times))] sz)) (zQi r0 D (zT cB cI cZ) [(a_t, .inr (11, [.int t_thrown', .ref a_t_now, .ref a_t_kept, .int t_isKept, .ref a_t_text, .int t_length, .ref a_t_passing, .int t_at', .int t_fault', .int t_open', .int t_asked', .int t_byGun', .int t_prizeMost', .ref a_t_order, .ref a_t_times, .int t_listed'])), (a_t_now, .inl (cI, 1562, .inl t_now)), (a_t_order, .inl (cI, 60, .inl t_order')), (a_t_text, .inl (cB, 200, .inl t_text)), (a_t_times, .inl (cI, 60, .inl t_times'))] (va_A [(a_t, .inr (11, [.int t_thrown, .ref a_t_now, .ref a_t_kept, .int t_isKept, .ref a_t_text, .int t_length, .ref a_t_passing, .int t_at, .int t_fault, .int t_open, .int t_asked, .int t_byGun, .int t_prizeMost, .ref a_t_order, .ref a_t_times, .int t_listed])), (a_t_now, .inl (cI, 1562, .inl t_now)), (a_t_order, .inl (cI, 60, .inl t_order)), (a_t_text, .inl (cB, 200, .inl t_text)), (a_t_times, .inl (cI, 60, .inl t_times))] sz)) 0 0 (va_A [(a_t, .inr (11, [.int t_thrown, .ref a_t_now, .ref a_t_kept, .int t_isKept, .ref a_t_text, .int t_length, .ref a_t_passing, .int t_at, .int t_fault, .int t_open, .int t_asked, .int t_byGun, .int t_prizeMost, .ref a_t_order, .ref a_t_times, .int t_listed])), (a_t_now, .inl (cI, 1562, .inl t_now)), (a_t_order, .inl (cI, 60, .inl t_order)), (a_t_text, .inl (cB, 200, .inl t_text)), (a_t_times, .inl (cI, 60, .inl t_times))] sz) := by
  refine Met.ofW (cc := cX11_place) (maxL := 3) (ret := (some .int)) (by decide) rfl ?_
  intro p e s m args below meth c s₁ B hml hv
  obtain ⟨rfl, hsz, hP, hK, hN, hZ, hD0⟩ := hv
  have hx := B.exec
  have hb := B.bytes
  have hr := B.returns
  have hts := atoms_spec (ws := wsX11_place) B.pre
  have hown : s.vm.findClass RX11 = some m.cls := findClass_of_methodNamed B.named
  have hlocks := B.notSynchronized
  subst hsz
  have hD := hD0.self (sz := s.heap.size)
  generalize hAe : va_A [(a_t, .inr (11, [.int t_thrown, .ref a_t_now, .ref a_t_kept, .int t_isKept, .ref a_t_text, .int t_length, .ref a_t_passing, .int t_at, .int t_fault, .int t_open, .int t_asked, .int t_byGun, .int t_prizeMost, .ref a_t_order, .ref a_t_times, .int t_listed])), (a_t_now, .inl (cI, 1562, .inl t_now)), (a_t_order, .inl (cI, 60, .inl t_order)), (a_t_text, .inl (cB, 200, .inl t_text)), (a_t_times, .inl (cI, 60, .inl t_times))] s.heap.size = A at hD hZ ⊢
  have hA : ∀ q : Nat, s.heap.size ≤ q → A q := fun q h => by rw [← hAe]; exact Or.inr h
  have hS : va_S A s.heap s.heap [] := va_S.rf
  have hl := lv_entry ([.ref a_t, .int x1]) (n := 3) (Nat.le_of_ble_eq_true rfl)
  rw [lg_entry_eq]
  generalize (lg_sl ([.ref a_t, .int x1]) ++ List.replicate (3 - (lg_sl ([.ref a_t, .int x1])).length) Slot.unset).toArray = ls at hl ⊢
  have hl : lv_has ls 3 [(0, .ref a_t), (1, .int x1)] := hl
  unfold fX11_place at h
  refine lv_aload_n hx hb dX11_place_0 rfl (lv_at hl 0 rfl) ?_
  refine lv_iconst (v := (nI 0)) hx hb dX11_place_1 rfl ?_
  refine va_put (D := D) (ci := 11) (ty := .int) (C := RX11) (T := TX11) (N := 16) hx hb hts qX11_place_X11 tyX11 tyX11_ok nmX11 hown hK hP hD hS 0 rfl rfl 0 (by decide) (hts _ kX11_place_0) (fun _ h9 => h9) rfl (by decide +kernel) rfl (by first | rfl | exact zz_fit) (Nat.le_of_ble_eq_true rfl) dX11_place_2 (fun H locs hP hD hS => ?_)
  have hP : va_P D vwCl [(a_t, .inr (11, [.int (nI 0), .ref a_t_now, .ref a_t_kept, .int t_isKept, .ref a_t_text, .int t_length, .ref a_t_passing, .int t_at, .int t_fault, .int t_open, .int t_asked, .int t_byGun, .int t_prizeMost, .ref a_t_order, .ref a_t_times, .int t_listed])), (a_t_now, .inl (cI, 1562, .inl t_now)), (a_t_order, .inl (cI, 60, .inl t_order)), (a_t_text, .inl (cB, 200, .inl t_text)), (a_t_times, .inl (cI, 60, .inl t_times))] H := hP
  have hD : va_D A [(a_t, .inr (11, [.int (nI 0), .ref a_t_now, .ref a_t_kept, .int t_isKept, .ref a_t_text, .int t_length, .ref a_t_passing, .int t_at, .int t_fault, .int t_open, .int t_asked, .int t_byGun, .int t_prizeMost, .ref a_t_order, .ref a_t_times, .int t_listed])), (a_t_now, .inl (cI, 1562, .inl t_now)), (a_t_order, .inl (cI, 60, .inl t_order)), (a_t_text, .inl (cB, 200, .inl t_text)), (a_t_times, .inl (cI, 60, .inl t_times))] := hD
  refine lv_aload_n hx hb dX11_place_5 rfl (lv_at hl 0 rfl) ?_
  obtain ⟨⟨b1, t_asked_r2, t_at_r3, t_byGun_r4, t_fault_r5, t_listed_r6, t_open_r7, t_prizeMost_r8, t_order_r9, t_times_r10⟩, e11, h⟩ := zz_b h
  dsimp only at h
  refine zVi (As := []) (rest := []) (C := RX11) (wr := []) [0, 1, 2, 3, 4] [] 0 ⟨hx, hb, hml, hown, hts⟩ (mX11_list l D cB cI cZ a_t a_t_now a_t_kept a_t_text a_t_passing a_t_order a_t_times (nI 0) t_isKept t_length t_at t_fault t_open t_asked t_byGun t_prizeMost t_listed t_now t_order t_text t_times H.size N b1 t_asked_r2 t_at_r3 t_byGun_r4 t_fault_r5 t_listed_r6 t_open_r7 t_prizeMost_r8 t_order_r9 t_times_r10 e11) (cwV 0 hts gX11_place_X11_list rfl rfl rfl (by decide +kernel) ⟨Nat.le_of_ble_eq_true rfl, Nat.le_of_ble_eq_true rfl⟩) hK hN hZ hP hD hS hA rfl rfl rfl rfl rfl rfl rfl rfl hl.1 rfl (lv_room (Nat.le_of_ble_eq_true rfl)) dX11_place_6 ⟨Nat.le_of_ble_eq_true rfl, Nat.le_of_ble_eq_true rfl⟩ (fun H locs hP hD hS => ?_)
  have hP : va_P D vwCl [(a_t, .inr (11, [.int (nI 0), .ref a_t_now, .ref a_t_kept, .int t_isKept, .ref a_t_text, .int t_length, .ref a_t_passing, .int t_at_r3, .int t_fault_r5, .int t_open_r7, .int t_asked_r2, .int t_byGun_r4, .int t_prizeMost_r8, .ref a_t_order, .ref a_t_times, .int t_listed_r6])), (a_t_now, .inl (cI, 1562, .inl t_now)), (a_t_order, .inl (cI, 60, .inl t_order_r9)), (a_t_text, .inl (cB, 200, .inl t_text)), (a_t_times, .inl (cI, 60, .inl t_times_r10))] H := hP
  have hD : va_D A [(a_t, .inr (11, [.int (nI 0), .ref a_t_now, .ref a_t_kept, .int t_isKept, .ref a_t_text, .int t_length, .ref a_t_passing, .int t_at_r3, .int t_fault_r5, .int t_open_r7, .int t_asked_r2, .int t_byGun_r4, .int t_prizeMost_r8, .ref a_t_order, .ref a_t_times, .int t_listed_r6])), (a_t_now, .inl (cI, 1562, .inl t_now)), (a_t_order, .inl (cI, 60, .inl t_order_r9)), (a_t_text, .inl (cB, 200, .inl t_text)), (a_t_times, .inl (cI, 60, .inl t_times_r10))] := hD
  refine lv_if_ne (tgt := 14) hx hb dX11_place_9 (by decide) (fun c12 => ?_) (fun c12 => ?_)
  · have h := zz_f h c12
    refine lv_iconst (v := (nI 0)) hx hb dX11_place_14 rfl ?_
    refine lv_istore_n (lv' := [(2, .int (nI 0)), (0, .ref a_t), (1, .int x1)]) hx hb dX11_place_15 rfl hl (by decide) rfl (fun ls hl => ?_)
    have X16_46 : ∀ (v2_16 : Int32) (H : Heap) (locs : List Loc) (ls : Array Slot), some ((-1 : Int32), t_asked_r2, t_at_r3, t_byGun_r4, t_fault_r5, t_listed_r6, t_open_r7, t_prizeMost_r8, (nI 0), t_order_r9, t_times_r10) = some (r0, t_asked', t_at', t_byGun', t_fault', t_listed', t_open', t_prizeMost', t_thrown', t_order', t_times') → va_P D vwCl [(a_t, .inr (11, [.int (nI 0), .ref a_t_now, .ref a_t_kept, .int t_isKept, .ref a_t_text, .int t_length, .ref a_t_passing, .int t_at_r3, .int t_fault_r5, .int t_open_r7, .int t_asked_r2, .int t_byGun_r4, .int t_prizeMost_r8, .ref a_t_order, .ref a_t_times, .int t_listed_r6])), (a_t_now, .inl (cI, 1562, .inl t_now)), (a_t_order, .inl (cI, 60, .inl t_order_r9)), (a_t_text, .inl (cB, 200, .inl t_text)), (a_t_times, .inl (cI, 60, .inl t_times_r10))] H → va_D A [(a_t, .inr (11, [.int (nI 0), .ref a_t_now, .ref a_t_kept, .int t_isKept, .ref a_t_text, .int t_length, .ref a_t_passing, .int t_at_r3, .int t_fault_r5, .int t_open_r7, .int t_asked_r2, .int t_byGun_r4, .int t_prizeMost_r8, .ref a_t_order, .ref a_t_times, .int t_listed_r6])), (a_t_now, .inl (cI, 1562, .inl t_now)), (a_t_order, .inl (cI, 60, .inl t_order_r9)), (a_t_text, .inl (cB, 200, .inl t_text)), (a_t_times, .inl (cI, 60, .inl t_times_r10))] → va_S A s.heap H locs → lv_has ls 3 [(2, .int v2_16), (0, .ref a_t), (1, .int x1)] → W p l e (headSpec wsX11_place ({ frames := 31, cells := 0, slots := 0, locals := 710 } : Room)).room s m #[Value.ref a_t, Value.int x1] below meth c H locs 0 0 (MQ below (zQi r0 D (zT cB cI cZ) [(a_t, .inr (11, [.int t_thrown', .ref a_t_now, .ref a_t_kept, .int t_isKept, .ref a_t_text, .int t_length, .ref a_t_passing, .int t_at', .int t_fault', .int t_open', .int t_asked', .int t_byGun', .int t_prizeMost', .ref a_t_order, .ref a_t_times, .int t_listed'])), (a_t_now, .inl (cI, 1562, .inl t_now)), (a_t_order, .inl (cI, 60, .inl t_order')), (a_t_text, .inl (cB, 200, .inl t_text)), (a_t_times, .inl (cI, 60, .inl t_times'))] A) #[Value.ref a_t, Value.int x1] s 0 0 A) (F0 m 46 ls []) := by
      intro v2_16 H locs ls h hP hD hS hl
      refine lv_iconst (v := (-1 : Int32)) hx hb dX11_place_46 rfl ?_
      obtain ⟨j0_, g_⟩ := Prod.mk.inj (Option.some.inj h)
      obtain ⟨j1_, g_⟩ := Prod.mk.inj g_
      obtain ⟨j2_, g_⟩ := Prod.mk.inj g_
      obtain ⟨j3_, g_⟩ := Prod.mk.inj g_
      obtain ⟨j4_, g_⟩ := Prod.mk.inj g_
      obtain ⟨j5_, g_⟩ := Prod.mk.inj g_
      obtain ⟨j6_, g_⟩ := Prod.mk.inj g_
      obtain ⟨j7_, g_⟩ := Prod.mk.inj g_
      obtain ⟨j8_, g_⟩ := Prod.mk.inj g_
      obtain ⟨j9_, g_⟩ := Prod.mk.inj g_
      have j10_ := g_
      subst j0_
      subst j1_
      subst j2_
      subst j3_
      subst j4_
      subst j5_
      subst j6_
      subst j7_
      subst j8_
      subst j9_
      subst j10_
      exact W.iret (v := (-1 : Int32)) hx hb hr (fun t ht hW => ⟨⟨_, (), rfl, rfl, zPost.of hP hD hK ht hW [0, 1, 2, 3, 4] rfl rfl rfl⟩, hS.F ht⟩) hS.2.2 dX11_place_47
    have L16 : ∀ (n : Nat) (v2_16 : Int32) (H : Heap) (locs : List Loc) (ls : Array Slot), fX11_place_L16 N x1 t_asked_r2 t_at_r3 t_byGun_r4 t_fault_r5 t_listed_r6 t_open_r7 t_prizeMost_r8 t_order_r9 t_times_r10 (fun (v2_16 : Int32) => some ((-1 : Int32), t_asked_r2, t_at_r3, t_byGun_r4, t_fault_r5, t_listed_r6, t_open_r7, t_prizeMost_r8, (nI 0), t_order_r9, t_times_r10)) n v2_16 = some (r0, t_asked', t_at', t_byGun', t_fault', t_listed', t_open', t_prizeMost', t_thrown', t_order', t_times') → va_P D vwCl [(a_t, .inr (11, [.int (nI 0), .ref a_t_now, .ref a_t_kept, .int t_isKept, .ref a_t_text, .int t_length, .ref a_t_passing, .int t_at_r3, .int t_fault_r5, .int t_open_r7, .int t_asked_r2, .int t_byGun_r4, .int t_prizeMost_r8, .ref a_t_order, .ref a_t_times, .int t_listed_r6])), (a_t_now, .inl (cI, 1562, .inl t_now)), (a_t_order, .inl (cI, 60, .inl t_order_r9)), (a_t_text, .inl (cB, 200, .inl t_text)), (a_t_times, .inl (cI, 60, .inl t_times_r10))] H → va_D A [(a_t, .inr (11, [.int (nI 0), .ref a_t_now, .ref a_t_kept, .int t_isKept, .ref a_t_text, .int t_length, .ref a_t_passing, .int t_at_r3, .int t_fault_r5, .int t_open_r7, .int t_asked_r2, .int t_byGun_r4, .int t_prizeMost_r8, .ref a_t_order, .ref a_t_times, .int t_listed_r6])), (a_t_now, .inl (cI, 1562, .inl t_now)), (a_t_order, .inl (cI, 60, .inl t_order_r9)), (a_t_text, .inl (cB, 200, .inl t_text)), (a_t_times, .inl (cI, 60, .inl t_times_r10))] → va_S A s.heap H locs → lv_has ls 3 [(2, .int v2_16), (0, .ref a_t), (1, .int x1)] → W p l e (headSpec wsX11_place ({ frames := 31, cells := 0, slots := 0, locals := 710 } : Room)).room s m #[Value.ref a_t, Value.int x1] below meth c H locs 0 0 (MQ below (zQi r0 D (zT cB cI cZ) [(a_t, .inr (11, [.int t_thrown', .ref a_t_now, .ref a_t_kept, .int t_isKept, .ref a_t_text, .int t_length, .ref a_t_passing, .int t_at', .int t_fault', .int t_open', .int t_asked', .int t_byGun', .int t_prizeMost', .ref a_t_order, .ref a_t_times, .int t_listed'])), (a_t_now, .inl (cI, 1562, .inl t_now)), (a_t_order, .inl (cI, 60, .inl t_order')), (a_t_text, .inl (cB, 200, .inl t_text)), (a_t_times, .inl (cI, 60, .inl t_times'))] A) #[Value.ref a_t, Value.int x1] s 0 0 A) (F0 m 16 ls []) := by
      intro n
      induction n with
      | zero => intro _ H locs ls h hP hD hS hl; cases h
      | succ n16 ih16 =>
        intro v2_16 H locs ls h hP hD hS hl
        rw [fX11_place_L16.eq_2] at h
        refine lv_iload_n hx hb dX11_place_16 rfl (lv_at hl 0 rfl) ?_
        refine lv_aload_n hx hb dX11_place_17 rfl (lv_at hl 1 rfl) ?_
        refine va_get (D := D) (ci := 11) (C := RX11) (T := TX11) (N := 16) hx hb hts qX11_place_X11 hown hK hP 0 rfl rfl 15 (by decide) (hts _ kX11_place_2) (fun _ h9 => h9) rfl dX11_place_18 ?_
        refine lv_icmp_ge (tgt := 46) hx hb dX11_place_21 (by decide) (fun c13 => ?_) (fun c13 => ?_)
        · have h := zz_t h c13
          exact X16_46 v2_16 _ _ _ h (hP.sub [0, 1, 2, 3, 4] rfl) (hD.sub [0, 1, 2, 3, 4] rfl rfl) hS (lv_sub hl [0, 1, 2] rfl)
        · have h := zz_f h c13
          refine lv_aload_n hx hb dX11_place_24 rfl (lv_at hl 1 rfl) ?_
          refine va_get (D := D) (ci := 11) (C := RX11) (T := TX11) (N := 16) hx hb hts qX11_place_X11 hown hK hP 0 rfl rfl 13 (by decide) (hts _ kX11_place_3) (fun _ h9 => h9) rfl dX11_place_25 ?_
          refine lv_iload_n hx hb dX11_place_28 rfl (lv_at hl 0 rfl) ?_
          obtain ⟨i14, h⟩ := zz_i h
          refine va_iald hx hb hK hP 2 1 rfl rfl i14 dX11_place_29 ?_
          refine lv_iload_n hx hb dX11_place_30 rfl (lv_at hl 2 rfl) ?_
          refine lv_icmp_ne (tgt := 40) hx hb dX11_place_31 (by decide) (fun c15 => ?_) (fun c15 => ?_)
          · have h := zz_f h c15
            refine lv_iinc (v := (v2_16 + (nI 1))) (lv' := [(2, .int (v2_16 + (nI 1))), (0, .ref a_t), (1, .int x1)]) hx hb dX11_place_40 hl (k := 0) rfl rfl (by decide) rfl (fun ls hl => ?_)
            refine lv_goto (tgt := 16) hx hb dX11_place_43 (by decide) ?_
            exact ih16 (v2_16 + (nI 1)) _ _ _ h (hP.sub [0, 1, 2, 3, 4] rfl) (hD.sub [0, 1, 2, 3, 4] rfl rfl) hS (lv_sub hl [0, 1, 2] rfl)
          · have h := zz_t h c15
            refine lv_aload_n hx hb dX11_place_34 rfl (lv_at hl 1 rfl) ?_
            refine lv_iload_n hx hb dX11_place_35 rfl (lv_at hl 0 rfl) ?_
            obtain ⟨r16, e17, h⟩ := zz_b h
            refine zVi (As := [.int v2_16]) (rest := []) (C := RX11) (wr := [(a_t_now, .inl (cI, 1562, .inl t_now)), (a_t_order, .inl (cI, 60, .inl t_order_r9)), (a_t_text, .inl (cB, 200, .inl t_text))]) [0, 4] [1, 2, 3] 0 ⟨hx, hb, hml, hown, hts⟩ (mX11_placeOf l D cB cI cZ a_t a_t_now a_t_kept a_t_text a_t_passing a_t_order a_t_times (nI 0) t_isKept t_length t_at_r3 t_fault_r5 t_open_r7 t_asked_r2 t_byGun_r4 t_prizeMost_r8 t_listed_r6 t_times_r10 H.size v2_16 N r16 e17) (cwV 1 hts gX11_place_X11_placeOf rfl rfl rfl (by decide +kernel) ⟨Nat.le_of_ble_eq_true rfl, Nat.le_of_ble_eq_true rfl⟩) hK hN hZ hP hD hS hA rfl rfl rfl rfl rfl rfl rfl rfl hl.1 rfl (lv_room (Nat.le_of_ble_eq_true rfl)) dX11_place_36 ⟨Nat.le_of_ble_eq_true rfl, Nat.le_of_ble_eq_true rfl⟩ (fun H locs hP hD hS => ?_)
            have hP : va_P D vwCl [(a_t_now, .inl (cI, 1562, .inl t_now)), (a_t_order, .inl (cI, 60, .inl t_order_r9)), (a_t_text, .inl (cB, 200, .inl t_text)), (a_t, .inr (11, [.int (nI 0), .ref a_t_now, .ref a_t_kept, .int t_isKept, .ref a_t_text, .int t_length, .ref a_t_passing, .int t_at_r3, .int t_fault_r5, .int t_open_r7, .int t_asked_r2, .int t_byGun_r4, .int t_prizeMost_r8, .ref a_t_order, .ref a_t_times, .int t_listed_r6])), (a_t_times, .inl (cI, 60, .inl t_times_r10))] H := hP
            have hD : va_D A [(a_t_now, .inl (cI, 1562, .inl t_now)), (a_t_order, .inl (cI, 60, .inl t_order_r9)), (a_t_text, .inl (cB, 200, .inl t_text)), (a_t, .inr (11, [.int (nI 0), .ref a_t_now, .ref a_t_kept, .int t_isKept, .ref a_t_text, .int t_length, .ref a_t_passing, .int t_at_r3, .int t_fault_r5, .int t_open_r7, .int t_asked_r2, .int t_byGun_r4, .int t_prizeMost_r8, .ref a_t_order, .ref a_t_times, .int t_listed_r6])), (a_t_times, .inl (cI, 60, .inl t_times_r10))] := hD
            obtain ⟨j0_, g_⟩ := Prod.mk.inj (Option.some.inj h)
            obtain ⟨j1_, g_⟩ := Prod.mk.inj g_
            obtain ⟨j2_, g_⟩ := Prod.mk.inj g_
            obtain ⟨j3_, g_⟩ := Prod.mk.inj g_
            obtain ⟨j4_, g_⟩ := Prod.mk.inj g_
            obtain ⟨j5_, g_⟩ := Prod.mk.inj g_
            obtain ⟨j6_, g_⟩ := Prod.mk.inj g_
            obtain ⟨j7_, g_⟩ := Prod.mk.inj g_
            obtain ⟨j8_, g_⟩ := Prod.mk.inj g_
            obtain ⟨j9_, g_⟩ := Prod.mk.inj g_
            have j10_ := g_
            subst j0_
            subst j1_
            subst j2_
            subst j3_
            subst j4_
            subst j5_
            subst j6_
            subst j7_
            subst j8_
            subst j9_
            subst j10_
            exact W.iret (v := r16) hx hb hr (fun t ht hW => ⟨⟨_, (), rfl, rfl, zPost.of hP hD hK ht hW [3, 0, 1, 2, 4] rfl rfl rfl⟩, hS.F ht⟩) hS.2.2 dX11_place_39
    exact L16 N (nI 0) _ _ _ h hP hD hS hl
  · have h := zz_t h c12
    refine lv_iconst (v := (-1 : Int32)) hx hb dX11_place_12 rfl ?_
    obtain ⟨j0_, g_⟩ := Prod.mk.inj (Option.some.inj h)
    obtain ⟨j1_, g_⟩ := Prod.mk.inj g_
    obtain ⟨j2_, g_⟩ := Prod.mk.inj g_
    obtain ⟨j3_, g_⟩ := Prod.mk.inj g_
    obtain ⟨j4_, g_⟩ := Prod.mk.inj g_
    obtain ⟨j5_, g_⟩ := Prod.mk.inj g_
    obtain ⟨j6_, g_⟩ := Prod.mk.inj g_
    obtain ⟨j7_, g_⟩ := Prod.mk.inj g_
    obtain ⟨j8_, g_⟩ := Prod.mk.inj g_
    obtain ⟨j9_, g_⟩ := Prod.mk.inj g_
    have j10_ := g_
    subst j0_
    subst j1_
    subst j2_
    subst j3_
    subst j4_
    subst j5_
    subst j6_
    subst j7_
    subst j8_
    subst j9_
    subst j10_
    exact W.iret (v := (-1 : Int32)) hx hb hr (fun t ht hW => ⟨⟨_, (), rfl, rfl, zPost.of hP hD hK ht hW [0, 1, 2, 3, 4] rfl rfl rfl⟩, hS.F ht⟩) hS.2.2 dX11_place_13
/-! RunDeskModel.many -/
theorem dX11_many_0 : decode cX11_many 0 = .ok (.aload_n 0, 1) := by decide +kernel
theorem dX11_many_1 : decode cX11_many 1 = .ok (.iconst 0, 1) := by decide +kernel
theorem dX11_many_2 : decode cX11_many 2 = .ok (.putfield 37, 3) := by decide +kernel
theorem dX11_many_5 : decode cX11_many 5 = .ok (.aload_n 0, 1) := by decide +kernel
theorem dX11_many_6 : decode cX11_many 6 = .ok (.invokevirtual 201, 3) := by decide +kernel
theorem dX11_many_9 : decode cX11_many 9 = .ok (.ifCond .eq 10, 3) := by decide +kernel
theorem dX11_many_12 : decode cX11_many 12 = .ok (.aload_n 0, 1) := by decide +kernel
theorem dX11_many_13 : decode cX11_many 13 = .ok (.getfield 198, 3) := by decide +kernel
theorem dX11_many_16 : decode cX11_many 16 = .ok (.goto 4, 3) := by decide +kernel
theorem dX11_many_19 : decode cX11_many 19 = .ok (.iconst (-1), 1) := by decide +kernel
theorem dX11_many_20 : decode cX11_many 20 = .ok (.ireturn, 1) := by decide +kernel
set_option maxRecDepth 20000 in
theorem ggX11_many_X11_list : GoodIn wsX11_many wsX11_list := goodIn_sub (List.forall_mem_cons.mpr ⟨List.mem_cons_of_mem _ (List.mem_append_left _ (List.mem_append_left _ (List.mem_of_getElem? (l := wsX11_many_r1) (i := 6) rfl))), (List.forall_mem_append.mpr ⟨(List.forall_mem_append.mpr ⟨(List.forall_mem_cons.mpr ⟨List.mem_cons_of_mem _ (List.mem_append_left _ (List.mem_append_left _ (List.mem_of_getElem? (l := wsX11_many_r1) (i := 7) rfl))), (List.forall_mem_cons.mpr ⟨List.mem_cons_of_mem _ (List.mem_append_left _ (List.mem_append_left _ (List.mem_of_getElem? (l := wsX11_many_r1) (i := 1) rfl))), (List.forall_mem_cons.mpr ⟨List.mem_cons_of_mem _ (List.mem_append_left _ (List.mem_append_left _ (List.mem_of_getElem? (l := wsX11_many_r1) (i := 8) rfl))), (List.forall_mem_cons.mpr ⟨List.mem_cons_of_mem _ (List.mem_append_left _ (List.mem_append_left _ (List.mem_of_getElem? (l := wsX11_many_r1) (i := 9) rfl))), (List.forall_mem_cons.mpr ⟨List.mem_cons_of_mem _ (List.mem_append_left _ (List.mem_append_left _ (List.mem_of_getElem? (l := wsX11_many_r1) (i := 10) rfl))), (List.forall_mem_cons.mpr ⟨List.mem_cons_of_mem _ (List.mem_append_left _ (List.mem_append_left _ (List.mem_of_getElem? (l := wsX11_many_r1) (i := 11) rfl))), (List.forall_mem_cons.mpr ⟨List.mem_cons_of_mem _ (List.mem_append_left _ (List.mem_append_left _ (List.mem_of_getElem? (l := wsX11_many_r1) (i := 12) rfl))), (List.forall_mem_cons.mpr ⟨List.mem_cons_of_mem _ (List.mem_append_left _ (List.mem_append_left _ (List.mem_of_getElem? (l := wsX11_many_r1) (i := 13) rfl))), (List.forall_mem_cons.mpr ⟨List.mem_cons_of_mem _ (List.mem_append_left _ (List.mem_append_left _ (List.mem_of_getElem? (l := wsX11_many_r1) (i := 5) rfl))), (List.forall_mem_cons.mpr ⟨List.mem_cons_of_mem _ (List.mem_append_left _ (List.mem_append_left _ (List.mem_of_getElem? (l := wsX11_many_r1) (i := 14) rfl))), (List.forall_mem_cons.mpr ⟨List.mem_cons_of_mem _ (List.mem_append_left _ (List.mem_append_left _ (List.mem_of_getElem? (l := wsX11_many_r1) (i := 15) rfl))), (List.forall_mem_cons.mpr ⟨List.mem_cons_of_mem _ (List.mem_append_left _ (List.mem_append_left _ (List.mem_of_getElem? (l := wsX11_many_r1) (i := 16) rfl))), (List.forall_mem_cons.mpr ⟨List.mem_cons_of_mem _ (List.mem_append_left _ (List.mem_append_left _ (List.mem_of_getElem? (l := wsX11_many_r1) (i := 17) rfl))), (List.forall_mem_cons.mpr ⟨List.mem_cons_of_mem _ (List.mem_append_left _ (List.mem_append_left _ (List.mem_of_getElem? (l := wsX11_many_r1) (i := 18) rfl))), (List.forall_mem_cons.mpr ⟨List.mem_cons_of_mem _ (List.mem_append_left _ (List.mem_append_left _ (List.mem_of_getElem? (l := wsX11_many_r1) (i := 19) rfl))), (List.forall_mem_cons.mpr ⟨List.mem_cons_of_mem _ (List.mem_append_left _ (List.mem_append_left _ (List.mem_of_getElem? (l := wsX11_many_r1) (i := 20) rfl))), (List.forall_mem_cons.mpr ⟨List.mem_cons_of_mem _ (List.mem_append_left _ (List.mem_append_left _ (List.mem_of_getElem? (l := wsX11_many_r1) (i := 21) rfl))), (List.forall_mem_cons.mpr ⟨List.mem_cons_of_mem _ (List.mem_append_left _ (List.mem_append_left _ (List.mem_of_getElem? (l := wsX11_many_r1) (i := 22) rfl))), (List.forall_mem_cons.mpr ⟨List.mem_cons_of_mem _ (List.mem_append_left _ (List.mem_append_left _ (List.mem_of_getElem? (l := wsX11_many_r1) (i := 23) rfl))), (List.forall_mem_cons.mpr ⟨List.mem_cons_of_mem _ (List.mem_append_left _ (List.mem_append_right _ (List.mem_append_left _ (List.mem_of_getElem? (l := wsX11_many_r2) (i := 0) rfl)))), (List.forall_mem_cons.mpr ⟨List.mem_cons_of_mem _ (List.mem_append_left _ (List.mem_append_right _ (List.mem_append_left _ (List.mem_of_getElem? (l := wsX11_many_r2) (i := 1) rfl)))), (List.forall_mem_cons.mpr ⟨List.mem_cons_of_mem _ (List.mem_append_left _ (List.mem_append_right _ (List.mem_append_left _ (List.mem_of_getElem? (l := wsX11_many_r2) (i := 2) rfl)))), (List.forall_mem_cons.mpr ⟨List.mem_cons_of_mem _ (List.mem_append_left _ (List.mem_append_right _ (List.mem_append_left _ (List.mem_of_getElem? (l := wsX11_many_r2) (i := 3) rfl)))), (List.forall_mem_cons.mpr ⟨List.mem_cons_of_mem _ (List.mem_append_left _ (List.mem_append_right _ (List.mem_append_left _ (List.mem_of_getElem? (l := wsX11_many_r2) (i := 4) rfl)))), (fun _ h => nomatch h)⟩)⟩)⟩)⟩)⟩)⟩)⟩)⟩)⟩)⟩)⟩)⟩)⟩)⟩)⟩)⟩)⟩)⟩)⟩)⟩)⟩)⟩)⟩)⟩), (List.forall_mem_append.mpr ⟨(List.forall_mem_cons.mpr ⟨List.mem_cons_of_mem _ (List.mem_append_left _ (List.mem_append_right _ (List.mem_append_left _ (List.mem_of_getElem? (l := wsX11_many_r2) (i := 5) rfl)))), (List.forall_mem_cons.mpr ⟨List.mem_cons_of_mem _ (List.mem_append_left _ (List.mem_append_right _ (List.mem_append_left _ (List.mem_of_getElem? (l := wsX11_many_r2) (i := 6) rfl)))), (List.forall_mem_cons.mpr ⟨List.mem_cons_of_mem _ (List.mem_append_left _ (List.mem_append_right _ (List.mem_append_left _ (List.mem_of_getElem? (l := wsX11_many_r2) (i := 7) rfl)))), (List.forall_mem_cons.mpr ⟨List.mem_cons_of_mem _ (List.mem_append_left _ (List.mem_append_right _ (List.mem_append_left _ (List.mem_of_getElem? (l := wsX11_many_r2) (i := 8) rfl)))), (List.forall_mem_cons.mpr ⟨List.mem_cons_of_mem _ (List.mem_append_left _ (List.mem_append_right _ (List.mem_append_left _ (List.mem_of_getElem? (l := wsX11_many_r2) (i := 9) rfl)))), (List.forall_mem_cons.mpr ⟨List.mem_cons_of_mem _ (List.mem_append_left _ (List.mem_append_right _ (List.mem_append_left _ (List.mem_of_getElem? (l := wsX11_many_r2) (i := 10) rfl)))), (List.forall_mem_cons.mpr ⟨List.mem_cons_of_mem _ (List.mem_append_left _ (List.mem_append_right _ (List.mem_append_left _ (List.mem_of_getElem? (l := wsX11_many_r2) (i := 11) rfl)))), (List.forall_mem_cons.mpr ⟨List.mem_cons_of_mem _ (List.mem_append_left _ (List.mem_append_right _ (List.mem_append_left _ (List.mem_of_getElem? (l := wsX11_many_r2) (i := 12) rfl)))), (List.forall_mem_cons.mpr ⟨List.mem_cons_of_mem _ (List.mem_append_left _ (List.mem_append_right _ (List.mem_append_left _ (List.mem_of_getElem? (l := wsX11_many_r2) (i := 13) rfl)))), (List.forall_mem_cons.mpr ⟨List.mem_cons_of_mem _ (List.mem_append_left _ (List.mem_append_right _ (List.mem_append_left _ (List.mem_of_getElem? (l := wsX11_many_r2) (i := 14) rfl)))), (List.forall_mem_cons.mpr ⟨List.mem_cons_of_mem _ (List.mem_append_left _ (List.mem_append_right _ (List.mem_append_left _ (List.mem_of_getElem? (l := wsX11_many_r2) (i := 15) rfl)))), (List.forall_mem_cons.mpr ⟨List.mem_cons_of_mem _ (List.mem_append_left _ (List.mem_append_right _ (List.mem_append_left _ (List.mem_of_getElem? (l := wsX11_many_r2) (i := 16) rfl)))), (List.forall_mem_cons.mpr ⟨List.mem_cons_of_mem _ (List.mem_append_left _ (List.mem_append_right _ (List.mem_append_left _ (List.mem_of_getElem? (l := wsX11_many_r2) (i := 17) rfl)))), (List.forall_mem_cons.mpr ⟨List.mem_cons_of_mem _ (List.mem_append_left _ (List.mem_append_right _ (List.mem_append_left _ (List.mem_of_getElem? (l := wsX11_many_r2) (i := 18) rfl)))), (List.forall_mem_cons.mpr ⟨List.mem_cons_of_mem _ (List.mem_append_left _ (List.mem_append_right _ (List.mem_append_left _ (List.mem_of_getElem? (l := wsX11_many_r2) (i := 19) rfl)))), (List.forall_mem_cons.mpr ⟨List.mem_cons_of_mem _ (List.mem_append_left _ (List.mem_append_right _ (List.mem_append_left _ (List.mem_of_getElem? (l := wsX11_many_r2) (i := 20) rfl)))), (List.forall_mem_cons.mpr ⟨List.mem_cons_of_mem _ (List.mem_append_left _ (List.mem_append_right _ (List.mem_append_left _ (List.mem_of_getElem? (l := wsX11_many_r2) (i := 21) rfl)))), (List.forall_mem_cons.mpr ⟨List.mem_cons_of_mem _ (List.mem_append_left _ (List.mem_append_right _ (List.mem_append_left _ (List.mem_of_getElem? (l := wsX11_many_r2) (i := 22) rfl)))), (List.forall_mem_cons.mpr ⟨List.mem_cons_of_mem _ (List.mem_append_left _ (List.mem_append_right _ (List.mem_append_left _ (List.mem_of_getElem? (l := wsX11_many_r2) (i := 23) rfl)))), (List.forall_mem_cons.mpr ⟨List.mem_cons_of_mem _ (List.mem_append_left _ (List.mem_append_right _ (List.mem_append_right _ (List.mem_append_left _ (List.mem_of_getElem? (l := wsX11_many_r3) (i := 0) rfl))))), (List.forall_mem_cons.mpr ⟨List.mem_cons_of_mem _ (List.mem_append_left _ (List.mem_append_right _ (List.mem_append_right _ (List.mem_append_left _ (List.mem_of_getElem? (l := wsX11_many_r3) (i := 1) rfl))))), (List.forall_mem_cons.mpr ⟨List.mem_cons_of_mem _ (List.mem_append_left _ (List.mem_append_right _ (List.mem_append_right _ (List.mem_append_left _ (List.mem_of_getElem? (l := wsX11_many_r3) (i := 2) rfl))))), (List.forall_mem_cons.mpr ⟨List.mem_cons_of_mem _ (List.mem_append_left _ (List.mem_append_right _ (List.mem_append_right _ (List.mem_append_left _ (List.mem_of_getElem? (l := wsX11_many_r3) (i := 3) rfl))))), (List.forall_mem_cons.mpr ⟨List.mem_cons_of_mem _ (List.mem_append_left _ (List.mem_append_right _ (List.mem_append_right _ (List.mem_append_left _ (List.mem_of_getElem? (l := wsX11_many_r3) (i := 4) rfl))))), (fun _ h => nomatch h)⟩)⟩)⟩)⟩)⟩)⟩)⟩)⟩)⟩)⟩)⟩)⟩)⟩)⟩)⟩)⟩)⟩)⟩)⟩)⟩)⟩)⟩)⟩)⟩), (List.forall_mem_append.mpr ⟨(List.forall_mem_cons.mpr ⟨List.mem_cons_of_mem _ (List.mem_append_left _ (List.mem_append_right _ (List.mem_append_right _ (List.mem_append_left _ (List.mem_of_getElem? (l := wsX11_many_r3) (i := 5) rfl))))), (List.forall_mem_cons.mpr ⟨List.mem_cons_of_mem _ (List.mem_append_left _ (List.mem_append_right _ (List.mem_append_right _ (List.mem_append_left _ (List.mem_of_getElem? (l := wsX11_many_r3) (i := 6) rfl))))), (List.forall_mem_cons.mpr ⟨List.mem_cons_of_mem _ (List.mem_append_left _ (List.mem_append_right _ (List.mem_append_right _ (List.mem_append_left _ (List.mem_of_getElem? (l := wsX11_many_r3) (i := 7) rfl))))), (List.forall_mem_cons.mpr ⟨List.mem_cons_of_mem _ (List.mem_append_left _ (List.mem_append_right _ (List.mem_append_right _ (List.mem_append_left _ (List.mem_of_getElem? (l := wsX11_many_r3) (i := 8) rfl))))), (List.forall_mem_cons.mpr ⟨List.mem_cons_of_mem _ (List.mem_append_left _ (List.mem_append_right _ (List.mem_append_right _ (List.mem_append_left _ (List.mem_of_getElem? (l := wsX11_many_r3) (i := 9) rfl))))), (List.forall_mem_cons.mpr ⟨List.mem_cons_of_mem _ (List.mem_append_left _ (List.mem_append_right _ (List.mem_append_right _ (List.mem_append_left _ (List.mem_of_getElem? (l := wsX11_many_r3) (i := 10) rfl))))), (List.forall_mem_cons.mpr ⟨List.mem_cons_of_mem _ (List.mem_append_left _ (List.mem_append_right _ (List.mem_append_right _ (List.mem_append_left _ (List.mem_of_getElem? (l := wsX11_many_r3) (i := 11) rfl))))), (List.forall_mem_cons.mpr ⟨List.mem_cons_of_mem _ (List.mem_append_left _ (List.mem_append_right _ (List.mem_append_right _ (List.mem_append_left _ (List.mem_of_getElem? (l := wsX11_many_r3) (i := 12) rfl))))), (List.forall_mem_cons.mpr ⟨List.mem_cons_of_mem _ (List.mem_append_left _ (List.mem_append_right _ (List.mem_append_right _ (List.mem_append_left _ (List.mem_of_getElem? (l := wsX11_many_r3) (i := 13) rfl))))), (List.forall_mem_cons.mpr ⟨List.mem_cons_of_mem _ (List.mem_append_left _ (List.mem_append_right _ (List.mem_append_right _ (List.mem_append_left _ (List.mem_of_getElem? (l := wsX11_many_r3) (i := 14) rfl))))), (List.forall_mem_cons.mpr ⟨List.mem_cons_of_mem _ (List.mem_append_left _ (List.mem_append_right _ (List.mem_append_right _ (List.mem_append_left _ (List.mem_of_getElem? (l := wsX11_many_r3) (i := 15) rfl))))), (List.forall_mem_cons.mpr ⟨List.mem_cons_of_mem _ (List.mem_append_left _ (List.mem_append_right _ (List.mem_append_right _ (List.mem_append_left _ (List.mem_of_getElem? (l := wsX11_many_r3) (i := 16) rfl))))), (List.forall_mem_cons.mpr ⟨List.mem_cons_of_mem _ (List.mem_append_left _ (List.mem_append_right _ (List.mem_append_right _ (List.mem_append_left _ (List.mem_of_getElem? (l := wsX11_many_r3) (i := 17) rfl))))), (List.forall_mem_cons.mpr ⟨List.mem_cons_of_mem _ (List.mem_append_left _ (List.mem_append_right _ (List.mem_append_right _ (List.mem_append_left _ (List.mem_of_getElem? (l := wsX11_many_r3) (i := 18) rfl))))), (List.forall_mem_cons.mpr ⟨List.mem_cons_of_mem _ (List.mem_append_left _ (List.mem_append_right _ (List.mem_append_right _ (List.mem_append_left _ (List.mem_of_getElem? (l := wsX11_many_r3) (i := 19) rfl))))), (List.forall_mem_cons.mpr ⟨List.mem_cons_of_mem _ (List.mem_append_left _ (List.mem_append_right _ (List.mem_append_right _ (List.mem_append_left _ (List.mem_of_getElem? (l := wsX11_many_r3) (i := 20) rfl))))), (List.forall_mem_cons.mpr ⟨List.mem_cons_of_mem _ (List.mem_append_left _ (List.mem_append_right _ (List.mem_append_right _ (List.mem_append_left _ (List.mem_of_getElem? (l := wsX11_many_r3) (i := 21) rfl))))), (List.forall_mem_cons.mpr ⟨List.mem_cons_of_mem _ (List.mem_append_left _ (List.mem_append_right _ (List.mem_append_right _ (List.mem_append_left _ (List.mem_of_getElem? (l := wsX11_many_r3) (i := 22) rfl))))), (List.forall_mem_cons.mpr ⟨List.mem_cons_of_mem _ (List.mem_append_left _ (List.mem_append_right _ (List.mem_append_right _ (List.mem_append_left _ (List.mem_of_getElem? (l := wsX11_many_r3) (i := 23) rfl))))), (List.forall_mem_cons.mpr ⟨List.mem_cons_of_mem _ (List.mem_append_left _ (List.mem_append_right _ (List.mem_append_right _ (List.mem_append_right _ (List.mem_append_left _ (List.mem_of_getElem? (l := wsX11_many_r4) (i := 0) rfl)))))), (List.forall_mem_cons.mpr ⟨List.mem_cons_of_mem _ (List.mem_append_left _ (List.mem_append_right _ (List.mem_append_right _ (List.mem_append_right _ (List.mem_append_left _ (List.mem_of_getElem? (l := wsX11_many_r4) (i := 1) rfl)))))), (List.forall_mem_cons.mpr ⟨List.mem_cons_of_mem _ (List.mem_append_left _ (List.mem_append_right _ (List.mem_append_right _ (List.mem_append_right _ (List.mem_append_left _ (List.mem_of_getElem? (l := wsX11_many_r4) (i := 2) rfl)))))), (List.forall_mem_cons.mpr ⟨List.mem_cons_of_mem _ (List.mem_append_left _ (List.mem_append_right _ (List.mem_append_right _ (List.mem_append_right _ (List.mem_append_left _ (List.mem_of_getElem? (l := wsX11_many_r4) (i := 3) rfl)))))), (List.forall_mem_cons.mpr ⟨List.mem_cons_of_mem _ (List.mem_append_left _ (List.mem_append_right _ (List.mem_append_right _ (List.mem_append_right _ (List.mem_append_left _ (List.mem_of_getElem? (l := wsX11_many_r4) (i := 4) rfl)))))), (fun _ h => nomatch h)⟩)⟩)⟩)⟩)⟩)⟩)⟩)⟩)⟩)⟩)⟩)⟩)⟩)⟩)⟩)⟩)⟩)⟩)⟩)⟩)⟩)⟩)⟩)⟩), (List.forall_mem_cons.mpr ⟨List.mem_cons_of_mem _ (List.mem_append_left _ (List.mem_append_right _ (List.mem_append_right _ (List.mem_append_right _ (List.mem_append_left _ (List.mem_of_getElem? (l := wsX11_many_r4) (i := 5) rfl)))))), (List.forall_mem_cons.mpr ⟨List.mem_cons_of_mem _ (List.mem_append_left _ (List.mem_append_right _ (List.mem_append_right _ (List.mem_append_right _ (List.mem_append_left _ (List.mem_of_getElem? (l := wsX11_many_r4) (i := 6) rfl)))))), (List.forall_mem_cons.mpr ⟨List.mem_cons_of_mem _ (List.mem_append_left _ (List.mem_append_right _ (List.mem_append_right _ (List.mem_append_right _ (List.mem_append_left _ (List.mem_of_getElem? (l := wsX11_many_r4) (i := 7) rfl)))))), (List.forall_mem_cons.mpr ⟨List.mem_cons_of_mem _ (List.mem_append_left _ (List.mem_append_right _ (List.mem_append_right _ (List.mem_append_right _ (List.mem_append_left _ (List.mem_of_getElem? (l := wsX11_many_r4) (i := 8) rfl)))))), (List.forall_mem_cons.mpr ⟨List.mem_cons_of_mem _ (List.mem_append_left _ (List.mem_append_right _ (List.mem_append_right _ (List.mem_append_right _ (List.mem_append_left _ (List.mem_of_getElem? (l := wsX11_many_r4) (i := 9) rfl)))))), (List.forall_mem_cons.mpr ⟨List.mem_cons_of_mem _ (List.mem_append_left _ (List.mem_append_right _ (List.mem_append_right _ (List.mem_append_right _ (List.mem_append_left _ (List.mem_of_getElem? (l := wsX11_many_r4) (i := 10) rfl)))))), (List.forall_mem_cons.mpr ⟨List.mem_cons_of_mem _ (List.mem_append_left _ (List.mem_append_right _ (List.mem_append_right _ (List.mem_append_right _ (List.mem_append_left _ (List.mem_of_getElem? (l := wsX11_many_r4) (i := 11) rfl)))))), (List.forall_mem_cons.mpr ⟨List.mem_cons_of_mem _ (List.mem_append_left _ (List.mem_append_right _ (List.mem_append_right _ (List.mem_append_right _ (List.mem_append_left _ (List.mem_of_getElem? (l := wsX11_many_r4) (i := 12) rfl)))))), (List.forall_mem_cons.mpr ⟨List.mem_cons_of_mem _ (List.mem_append_left _ (List.mem_append_right _ (List.mem_append_right _ (List.mem_append_right _ (List.mem_append_left _ (List.mem_of_getElem? (l := wsX11_many_r4) (i := 13) rfl)))))), (List.forall_mem_cons.mpr ⟨List.mem_cons_of_mem _ (List.mem_append_left _ (List.mem_append_right _ (List.mem_append_right _ (List.mem_append_right _ (List.mem_append_left _ (List.mem_of_getElem? (l := wsX11_many_r4) (i := 14) rfl)))))), (List.forall_mem_cons.mpr ⟨List.mem_cons_of_mem _ (List.mem_append_left _ (List.mem_append_right _ (List.mem_append_right _ (List.mem_append_right _ (List.mem_append_left _ (List.mem_of_getElem? (l := wsX11_many_r4) (i := 15) rfl)))))), (List.forall_mem_cons.mpr ⟨List.mem_cons_of_mem _ (List.mem_append_left _ (List.mem_append_right _ (List.mem_append_right _ (List.mem_append_right _ (List.mem_append_left _ (List.mem_of_getElem? (l := wsX11_many_r4) (i := 16) rfl)))))), (List.forall_mem_cons.mpr ⟨List.mem_cons_of_mem _ (List.mem_append_left _ (List.mem_append_right _ (List.mem_append_right _ (List.mem_append_right _ (List.mem_append_left _ (List.mem_of_getElem? (l := wsX11_many_r4) (i := 17) rfl)))))), (List.forall_mem_cons.mpr ⟨List.mem_cons_of_mem _ (List.mem_append_left _ (List.mem_append_right _ (List.mem_append_right _ (List.mem_append_right _ (List.mem_append_left _ (List.mem_of_getElem? (l := wsX11_many_r4) (i := 18) rfl)))))), (List.forall_mem_cons.mpr ⟨List.mem_cons_of_mem _ (List.mem_append_left _ (List.mem_append_right _ (List.mem_append_right _ (List.mem_append_right _ (List.mem_append_left _ (List.mem_of_getElem? (l := wsX11_many_r4) (i := 19) rfl)))))), (List.forall_mem_cons.mpr ⟨List.mem_cons_of_mem _ (List.mem_append_left _ (List.mem_append_right _ (List.mem_append_right _ (List.mem_append_right _ (List.mem_append_left _ (List.mem_of_getElem? (l := wsX11_many_r4) (i := 20) rfl)))))), (List.forall_mem_cons.mpr ⟨List.mem_cons_of_mem _ (List.mem_append_left _ (List.mem_append_right _ (List.mem_append_right _ (List.mem_append_right _ (List.mem_append_left _ (List.mem_of_getElem? (l := wsX11_many_r4) (i := 21) rfl)))))), (List.forall_mem_cons.mpr ⟨List.mem_cons_of_mem _ (List.mem_append_left _ (List.mem_append_right _ (List.mem_append_right _ (List.mem_append_right _ (List.mem_append_left _ (List.mem_of_getElem? (l := wsX11_many_r4) (i := 22) rfl)))))), (List.forall_mem_cons.mpr ⟨List.mem_cons_of_mem _ (List.mem_append_left _ (List.mem_append_right _ (List.mem_append_right _ (List.mem_append_right _ (List.mem_append_left _ (List.mem_of_getElem? (l := wsX11_many_r4) (i := 23) rfl)))))), (List.forall_mem_cons.mpr ⟨List.mem_cons_of_mem _ (List.mem_append_left _ (List.mem_append_right _ (List.mem_append_right _ (List.mem_append_right _ (List.mem_append_right _ (List.mem_of_getElem? (l := wsX11_many_r5) (i := 0) rfl)))))), (List.forall_mem_cons.mpr ⟨List.mem_cons_of_mem _ (List.mem_append_left _ (List.mem_append_right _ (List.mem_append_right _ (List.mem_append_right _ (List.mem_append_right _ (List.mem_of_getElem? (l := wsX11_many_r5) (i := 1) rfl)))))), (List.forall_mem_cons.mpr ⟨List.mem_cons_of_mem _ (List.mem_append_left _ (List.mem_append_right _ (List.mem_append_right _ (List.mem_append_right _ (List.mem_append_right _ (List.mem_of_getElem? (l := wsX11_many_r5) (i := 2) rfl)))))), (List.forall_mem_cons.mpr ⟨List.mem_cons_of_mem _ (List.mem_append_left _ (List.mem_append_right _ (List.mem_append_right _ (List.mem_append_right _ (List.mem_append_right _ (List.mem_of_getElem? (l := wsX11_many_r5) (i := 3) rfl)))))), (List.forall_mem_cons.mpr ⟨List.mem_cons_of_mem _ (List.mem_append_left _ (List.mem_append_right _ (List.mem_append_right _ (List.mem_append_right _ (List.mem_append_right _ (List.mem_of_getElem? (l := wsX11_many_r5) (i := 4) rfl)))))), (fun _ h => nomatch h)⟩)⟩)⟩)⟩)⟩)⟩)⟩)⟩)⟩)⟩)⟩)⟩)⟩)⟩)⟩)⟩)⟩)⟩)⟩)⟩)⟩)⟩)⟩)⟩)⟩)⟩)⟩), (fun _ h => List.mem_cons_of_mem _ (List.mem_append_right _ (h)))⟩)⟩) (by decide +kernel)
set_option maxRecDepth 20000 in
theorem gX11_many_X11_list : GoodIn wsX11_many (wsV RX11 201 RX11 yX11_list wsX11_list) := goodIn_app (goodIn_of _ (by decide +kernel)) ggX11_many_X11_list
theorem kX11_many_0 : (.fieldLink RX11 37 "RunDeskModel" "thrown" "I" : Cond) ∈ wsX11_many := List.mem_of_getElem? (i := 1) (by decide +kernel)
theorem qX11_many_X11 : ∀ w ∈ wsX110, w ∈ wsX11_many := fun _ h => List.mem_cons_of_mem _ (List.mem_append_right _ (h))
theorem kX11_many_2 : (.fieldLink RX11 198 "RunDeskModel" "listed" "I" : Cond) ∈ wsX11_many := List.mem_of_getElem? (i := 2) (by decide +kernel)
set_option maxHeartbeats 4000000 in
set_option maxRecDepth 100000 in
theorem mX11_many (l : Launch) (D : va_G) (cB cI cZ : ClassId) (a_t : Nat) (a_t_now : Nat) (a_t_kept : Nat) (a_t_text : Nat) (a_t_passing : Nat) (a_t_order : Nat) (a_t_times : Nat) (t_thrown : Int32) (t_isKept : Int32) (t_length : Int32) (t_at : Int32) (t_fault : Int32) (t_open : Int32) (t_asked : Int32) (t_byGun : Int32) (t_prizeMost : Int32) (t_listed : Int32) (t_now : Nat → Int32) (t_order : Nat → Int32) (t_text : Nat → Int32) (t_times : Nat → Int32) (sz : Nat) (N : Nat) (r0 : Int32) (t_asked' : Int32) (t_at' : Int32) (t_byGun' : Int32) (t_fault' : Int32) (t_listed' : Int32) (t_open' : Int32) (t_prizeMost' : Int32) (t_thrown' : Int32) (t_order' : Nat → Int32) (t_times' : Nat → Int32) (h : fX11_many N t_asked t_at t_byGun t_fault t_length t_listed t_open t_prizeMost t_thrown t_now t_order t_text t_times = some (r0, t_asked', t_at', t_byGun', t_fault', t_listed', t_open', t_prizeMost', t_thrown', t_order', t_times')) : Met l yX11_many wsX11_many ({ frames := 31, cells := 0, slots := 0, locals := 710 } : Room) (va_Pc [.ref a_t] (zPre D (zT cB cI cZ) [(a_t, .inr (11, [.int t_thrown, .ref a_t_now, .ref a_t_kept, .int t_isKept, .ref a_t_text, .int t_length, .ref a_t_passing, .int t_at, .int t_fault, .int t_open, .int t_asked, .int t_byGun, .int t_prizeMost, .ref a_t_order, .ref a_t_times, .int t_listed])), (a_t_now, .inl (cI, 1562, .inl t_now)), (a_t_order, .inl (cI, 60, .inl t_order)), (a_t_text, .inl (cB, 200, .inl t_text)), (a_t_times, .inl (cI, 60, .inl t_times))] sz)) (zQi r0 D (zT cB cI cZ) [(a_t, .inr (11, [.int t_thrown', .ref a_t_now, .ref a_t_kept, .int t_isKept, .ref a_t_text, .int t_length, .ref a_t_passing, .int t_at', .int t_fault', .int t_open', .int t_asked', .int t_byGun', .int t_prizeMost', .ref a_t_order, .ref a_t_times, .int t_listed'])), (a_t_now, .inl (cI, 1562, .inl t_now)), (a_t_order, .inl (cI, 60, .inl t_order')), (a_t_text, .inl (cB, 200, .inl t_text)), (a_t_times, .inl (cI, 60, .inl t_times'))] (va_A [(a_t, .inr (11, [.int t_thrown, .ref a_t_now, .ref a_t_kept, .int t_isKept, .ref a_t_text, .int t_length, .ref a_t_passing, .int t_at, .int t_fault, .int t_open, .int t_asked, .int t_byGun, .int t_prizeMost, .ref a_t_order, .ref a_t_times, .int t_listed])), (a_t_now, .inl (cI, 1562, .inl t_now)), (a_t_order, .inl (cI, 60, .inl t_order)), (a_t_text, .inl (cB, 200, .inl t_text)), (a_t_times, .inl (cI, 60, .inl t_times))] sz)) 0 0 (va_A [(a_t, .inr (11, [.int t_thrown, .ref a_t_now, .ref a_t_kept, .int t_isKept, .ref a_t_text, .int t_length, .ref a_t_passing, .int t_at, .int t_fault, .int t_open, .int t_asked, .int t_byGun, .int t_prizeMost, .ref a_t_order, .ref a_t_times, .int t_listed])), (a_t_now, .inl (cI, 1562, .inl t_now)), (a_t_order, .inl (cI, 60, .inl t_order)), (a_t_text, .inl (cB, 200, .inl t_text)), (a_t_times, .inl (cI, 60, .inl t_times))] sz) := by
  refine Met.ofW (cc := cX11_many) (maxL := 1) (ret := (some .int)) (by decide) rfl ?_
  intro p e s m args below meth c s₁ B hml hv
  obtain ⟨rfl, hsz, hP, hK, hN, hZ, hD0⟩ := hv
  have hx := B.exec
  have hb := B.bytes
  have hr := B.returns
  have hts := atoms_spec (ws := wsX11_many) B.pre
  have hown : s.vm.findClass RX11 = some m.cls := findClass_of_methodNamed B.named
  have hlocks := B.notSynchronized
  subst hsz
  have hD := hD0.self (sz := s.heap.size)
  generalize hAe : va_A [(a_t, .inr (11, [.int t_thrown, .ref a_t_now, .ref a_t_kept, .int t_isKept, .ref a_t_text, .int t_length, .ref a_t_passing, .int t_at, .int t_fault, .int t_open, .int t_asked, .int t_byGun, .int t_prizeMost, .ref a_t_order, .ref a_t_times, .int t_listed])), (a_t_now, .inl (cI, 1562, .inl t_now)), (a_t_order, .inl (cI, 60, .inl t_order)), (a_t_text, .inl (cB, 200, .inl t_text)), (a_t_times, .inl (cI, 60, .inl t_times))] s.heap.size = A at hD hZ ⊢
  have hA : ∀ q : Nat, s.heap.size ≤ q → A q := fun q h => by rw [← hAe]; exact Or.inr h
  have hS : va_S A s.heap s.heap [] := va_S.rf
  have hl := lv_entry ([.ref a_t]) (n := 1) (Nat.le_of_ble_eq_true rfl)
  rw [lg_entry_eq]
  generalize (lg_sl ([.ref a_t]) ++ List.replicate (1 - (lg_sl ([.ref a_t])).length) Slot.unset).toArray = ls at hl ⊢
  have hl : lv_has ls 1 [(0, .ref a_t)] := hl
  unfold fX11_many at h
  refine lv_aload_n hx hb dX11_many_0 rfl (lv_at hl 0 rfl) ?_
  refine lv_iconst (v := (nI 0)) hx hb dX11_many_1 rfl ?_
  refine va_put (D := D) (ci := 11) (ty := .int) (C := RX11) (T := TX11) (N := 16) hx hb hts qX11_many_X11 tyX11 tyX11_ok nmX11 hown hK hP hD hS 0 rfl rfl 0 (by decide) (hts _ kX11_many_0) (fun _ h9 => h9) rfl (by decide +kernel) rfl (by first | rfl | exact zz_fit) (Nat.le_of_ble_eq_true rfl) dX11_many_2 (fun H locs hP hD hS => ?_)
  have hP : va_P D vwCl [(a_t, .inr (11, [.int (nI 0), .ref a_t_now, .ref a_t_kept, .int t_isKept, .ref a_t_text, .int t_length, .ref a_t_passing, .int t_at, .int t_fault, .int t_open, .int t_asked, .int t_byGun, .int t_prizeMost, .ref a_t_order, .ref a_t_times, .int t_listed])), (a_t_now, .inl (cI, 1562, .inl t_now)), (a_t_order, .inl (cI, 60, .inl t_order)), (a_t_text, .inl (cB, 200, .inl t_text)), (a_t_times, .inl (cI, 60, .inl t_times))] H := hP
  have hD : va_D A [(a_t, .inr (11, [.int (nI 0), .ref a_t_now, .ref a_t_kept, .int t_isKept, .ref a_t_text, .int t_length, .ref a_t_passing, .int t_at, .int t_fault, .int t_open, .int t_asked, .int t_byGun, .int t_prizeMost, .ref a_t_order, .ref a_t_times, .int t_listed])), (a_t_now, .inl (cI, 1562, .inl t_now)), (a_t_order, .inl (cI, 60, .inl t_order)), (a_t_text, .inl (cB, 200, .inl t_text)), (a_t_times, .inl (cI, 60, .inl t_times))] := hD
  refine lv_aload_n hx hb dX11_many_5 rfl (lv_at hl 0 rfl) ?_
  obtain ⟨⟨b1, t_asked_r2, t_at_r3, t_byGun_r4, t_fault_r5, t_listed_r6, t_open_r7, t_prizeMost_r8, t_order_r9, t_times_r10⟩, e11, h⟩ := zz_b h
  dsimp only at h
  refine zVi (As := []) (rest := []) (C := RX11) (wr := []) [0, 1, 2, 3, 4] [] 0 ⟨hx, hb, hml, hown, hts⟩ (mX11_list l D cB cI cZ a_t a_t_now a_t_kept a_t_text a_t_passing a_t_order a_t_times (nI 0) t_isKept t_length t_at t_fault t_open t_asked t_byGun t_prizeMost t_listed t_now t_order t_text t_times H.size N b1 t_asked_r2 t_at_r3 t_byGun_r4 t_fault_r5 t_listed_r6 t_open_r7 t_prizeMost_r8 t_order_r9 t_times_r10 e11) (cwV 0 hts gX11_many_X11_list rfl rfl rfl (by decide +kernel) ⟨Nat.le_of_ble_eq_true rfl, Nat.le_of_ble_eq_true rfl⟩) hK hN hZ hP hD hS hA rfl rfl rfl rfl rfl rfl rfl rfl hl.1 rfl (lv_room (Nat.le_of_ble_eq_true rfl)) dX11_many_6 ⟨Nat.le_of_ble_eq_true rfl, Nat.le_of_ble_eq_true rfl⟩ (fun H locs hP hD hS => ?_)
  have hP : va_P D vwCl [(a_t, .inr (11, [.int (nI 0), .ref a_t_now, .ref a_t_kept, .int t_isKept, .ref a_t_text, .int t_length, .ref a_t_passing, .int t_at_r3, .int t_fault_r5, .int t_open_r7, .int t_asked_r2, .int t_byGun_r4, .int t_prizeMost_r8, .ref a_t_order, .ref a_t_times, .int t_listed_r6])), (a_t_now, .inl (cI, 1562, .inl t_now)), (a_t_order, .inl (cI, 60, .inl t_order_r9)), (a_t_text, .inl (cB, 200, .inl t_text)), (a_t_times, .inl (cI, 60, .inl t_times_r10))] H := hP
  have hD : va_D A [(a_t, .inr (11, [.int (nI 0), .ref a_t_now, .ref a_t_kept, .int t_isKept, .ref a_t_text, .int t_length, .ref a_t_passing, .int t_at_r3, .int t_fault_r5, .int t_open_r7, .int t_asked_r2, .int t_byGun_r4, .int t_prizeMost_r8, .ref a_t_order, .ref a_t_times, .int t_listed_r6])), (a_t_now, .inl (cI, 1562, .inl t_now)), (a_t_order, .inl (cI, 60, .inl t_order_r9)), (a_t_text, .inl (cB, 200, .inl t_text)), (a_t_times, .inl (cI, 60, .inl t_times_r10))] := hD
  refine lv_if_eq (tgt := 19) hx hb dX11_many_9 (by decide) (fun c12 => ?_) (fun c12 => ?_)
  · have h := zz_t h c12
    refine lv_iconst (v := (-1 : Int32)) hx hb dX11_many_19 rfl ?_
    obtain ⟨j0_, g_⟩ := Prod.mk.inj (Option.some.inj h)
    obtain ⟨j1_, g_⟩ := Prod.mk.inj g_
    obtain ⟨j2_, g_⟩ := Prod.mk.inj g_
    obtain ⟨j3_, g_⟩ := Prod.mk.inj g_
    obtain ⟨j4_, g_⟩ := Prod.mk.inj g_
    obtain ⟨j5_, g_⟩ := Prod.mk.inj g_
    obtain ⟨j6_, g_⟩ := Prod.mk.inj g_
    obtain ⟨j7_, g_⟩ := Prod.mk.inj g_
    obtain ⟨j8_, g_⟩ := Prod.mk.inj g_
    obtain ⟨j9_, g_⟩ := Prod.mk.inj g_
    have j10_ := g_
    subst j0_
    subst j1_
    subst j2_
    subst j3_
    subst j4_
    subst j5_
    subst j6_
    subst j7_
    subst j8_
    subst j9_
    subst j10_
    exact W.iret (v := (-1 : Int32)) hx hb hr (fun t ht hW => ⟨⟨_, (), rfl, rfl, zPost.of hP hD hK ht hW [0, 1, 2, 3, 4] rfl rfl rfl⟩, hS.F ht⟩) hS.2.2 dX11_many_20
  · have h := zz_f h c12
    refine lv_aload_n hx hb dX11_many_12 rfl (lv_at hl 0 rfl) ?_
    refine va_get (D := D) (ci := 11) (C := RX11) (T := TX11) (N := 16) hx hb hts qX11_many_X11 hown hK hP 0 rfl rfl 15 (by decide) (hts _ kX11_many_2) (fun _ h9 => h9) rfl dX11_many_13 ?_
    refine lv_goto (tgt := 20) hx hb dX11_many_16 (by decide) ?_
    obtain ⟨j0_, g_⟩ := Prod.mk.inj (Option.some.inj h)
    obtain ⟨j1_, g_⟩ := Prod.mk.inj g_
    obtain ⟨j2_, g_⟩ := Prod.mk.inj g_
    obtain ⟨j3_, g_⟩ := Prod.mk.inj g_
    obtain ⟨j4_, g_⟩ := Prod.mk.inj g_
    obtain ⟨j5_, g_⟩ := Prod.mk.inj g_
    obtain ⟨j6_, g_⟩ := Prod.mk.inj g_
    obtain ⟨j7_, g_⟩ := Prod.mk.inj g_
    obtain ⟨j8_, g_⟩ := Prod.mk.inj g_
    obtain ⟨j9_, g_⟩ := Prod.mk.inj g_
    have j10_ := g_
    subst j0_
    subst j1_
    subst j2_
    subst j3_
    subst j4_
    subst j5_
    subst j6_
    subst j7_
    subst j8_
    subst j9_
    subst j10_
    exact W.iret (v := t_listed_r6) hx hb hr (fun t ht hW => ⟨⟨_, (), rfl, rfl, zPost.of hP hD hK ht hW [0, 1, 2, 3, 4] rfl rfl rfl⟩, hS.F ht⟩) hS.2.2 dX11_many_20
/-! RunDeskModel.prizes -/
theorem dX11_prizes_0 : decode cX11_prizes 0 = .ok (.aload_n 0, 1) := by decide +kernel
theorem dX11_prizes_1 : decode cX11_prizes 1 = .ok (.iconst 0, 1) := by decide +kernel
theorem dX11_prizes_2 : decode cX11_prizes 2 = .ok (.putfield 37, 3) := by decide +kernel
theorem dX11_prizes_5 : decode cX11_prizes 5 = .ok (.aload_n 0, 1) := by decide +kernel
theorem dX11_prizes_6 : decode cX11_prizes 6 = .ok (.invokevirtual 201, 3) := by decide +kernel
theorem dX11_prizes_9 : decode cX11_prizes 9 = .ok (.ifCond .ne 5, 3) := by decide +kernel
theorem dX11_prizes_12 : decode cX11_prizes 12 = .ok (.iconst (-1), 1) := by decide +kernel
theorem dX11_prizes_13 : decode cX11_prizes 13 = .ok (.ireturn, 1) := by decide +kernel
theorem dX11_prizes_14 : decode cX11_prizes 14 = .ok (.aload_n 0, 1) := by decide +kernel
theorem dX11_prizes_15 : decode cX11_prizes 15 = .ok (.getfield 192, 3) := by decide +kernel
theorem dX11_prizes_18 : decode cX11_prizes 18 = .ok (.istore_n 1, 1) := by decide +kernel
theorem dX11_prizes_19 : decode cX11_prizes 19 = .ok (.iconst 0, 1) := by decide +kernel
theorem dX11_prizes_20 : decode cX11_prizes 20 = .ok (.istore_n 2, 1) := by decide +kernel
theorem dX11_prizes_21 : decode cX11_prizes 21 = .ok (.iconst 0, 1) := by decide +kernel
theorem dX11_prizes_22 : decode cX11_prizes 22 = .ok (.istore_n 3, 1) := by decide +kernel
theorem dX11_prizes_23 : decode cX11_prizes 23 = .ok (.iload_n 3, 1) := by decide +kernel
theorem dX11_prizes_24 : decode cX11_prizes 24 = .ok (.aload_n 0, 1) := by decide +kernel
theorem dX11_prizes_25 : decode cX11_prizes 25 = .ok (.getfield 198, 3) := by decide +kernel
theorem dX11_prizes_28 : decode cX11_prizes 28 = .ok (.if_icmp .ge 26, 3) := by decide +kernel
theorem dX11_prizes_31 : decode cX11_prizes 31 = .ok (.iload_n 2, 1) := by decide +kernel
theorem dX11_prizes_32 : decode cX11_prizes 32 = .ok (.aload_n 0, 1) := by decide +kernel
theorem dX11_prizes_33 : decode cX11_prizes 33 = .ok (.iload_n 3, 1) := by decide +kernel
theorem dX11_prizes_34 : decode cX11_prizes 34 = .ok (.invokevirtual 204, 3) := by decide +kernel
theorem dX11_prizes_37 : decode cX11_prizes 37 = .ok (.iload_n 1, 1) := by decide +kernel
theorem dX11_prizes_38 : decode cX11_prizes 38 = .ok (.if_icmp .gt 7, 3) := by decide +kernel
theorem dX11_prizes_41 : decode cX11_prizes 41 = .ok (.iconst 1, 1) := by decide +kernel
theorem dX11_prizes_42 : decode cX11_prizes 42 = .ok (.goto 4, 3) := by decide +kernel
theorem dX11_prizes_45 : decode cX11_prizes 45 = .ok (.iconst 0, 1) := by decide +kernel
theorem dX11_prizes_46 : decode cX11_prizes 46 = .ok (.iadd, 1) := by decide +kernel
theorem dX11_prizes_47 : decode cX11_prizes 47 = .ok (.istore_n 2, 1) := by decide +kernel
theorem dX11_prizes_48 : decode cX11_prizes 48 = .ok (.iinc 3 1, 3) := by decide +kernel
theorem dX11_prizes_51 : decode cX11_prizes 51 = .ok (.goto (-28), 3) := by decide +kernel
theorem dX11_prizes_54 : decode cX11_prizes 54 = .ok (.iload_n 2, 1) := by decide +kernel
theorem dX11_prizes_55 : decode cX11_prizes 55 = .ok (.ireturn, 1) := by decide +kernel
set_option maxRecDepth 20000 in
theorem ggX11_prizes_X11_list : GoodIn wsX11_prizes wsX11_list := goodIn_sub (List.forall_mem_cons.mpr ⟨List.mem_cons_of_mem _ (List.mem_append_left _ (List.mem_append_left _ (List.mem_of_getElem? (l := wsX11_prizes_r1) (i := 7) rfl))), (List.forall_mem_append.mpr ⟨(List.forall_mem_append.mpr ⟨(List.forall_mem_cons.mpr ⟨List.mem_cons_of_mem _ (List.mem_append_left _ (List.mem_append_left _ (List.mem_of_getElem? (l := wsX11_prizes_r1) (i := 8) rfl))), (List.forall_mem_cons.mpr ⟨List.mem_cons_of_mem _ (List.mem_append_left _ (List.mem_append_left _ (List.mem_of_getElem? (l := wsX11_prizes_r1) (i := 2) rfl))), (List.forall_mem_cons.mpr ⟨List.mem_cons_of_mem _ (List.mem_append_left _ (List.mem_append_left _ (List.mem_of_getElem? (l := wsX11_prizes_r1) (i := 9) rfl))), (List.forall_mem_cons.mpr ⟨List.mem_cons_of_mem _ (List.mem_append_left _ (List.mem_append_left _ (List.mem_of_getElem? (l := wsX11_prizes_r1) (i := 10) rfl))), (List.forall_mem_cons.mpr ⟨List.mem_cons_of_mem _ (List.mem_append_left _ (List.mem_append_left _ (List.mem_of_getElem? (l := wsX11_prizes_r1) (i := 11) rfl))), (List.forall_mem_cons.mpr ⟨List.mem_cons_of_mem _ (List.mem_append_left _ (List.mem_append_left _ (List.mem_of_getElem? (l := wsX11_prizes_r1) (i := 12) rfl))), (List.forall_mem_cons.mpr ⟨List.mem_cons_of_mem _ (List.mem_append_left _ (List.mem_append_left _ (List.mem_of_getElem? (l := wsX11_prizes_r1) (i := 13) rfl))), (List.forall_mem_cons.mpr ⟨List.mem_cons_of_mem _ (List.mem_append_left _ (List.mem_append_left _ (List.mem_of_getElem? (l := wsX11_prizes_r1) (i := 14) rfl))), (List.forall_mem_cons.mpr ⟨List.mem_cons_of_mem _ (List.mem_append_left _ (List.mem_append_left _ (List.mem_of_getElem? (l := wsX11_prizes_r1) (i := 6) rfl))), (List.forall_mem_cons.mpr ⟨List.mem_cons_of_mem _ (List.mem_append_left _ (List.mem_append_left _ (List.mem_of_getElem? (l := wsX11_prizes_r1) (i := 15) rfl))), (List.forall_mem_cons.mpr ⟨List.mem_cons_of_mem _ (List.mem_append_left _ (List.mem_append_left _ (List.mem_of_getElem? (l := wsX11_prizes_r1) (i := 16) rfl))), (List.forall_mem_cons.mpr ⟨List.mem_cons_of_mem _ (List.mem_append_left _ (List.mem_append_left _ (List.mem_of_getElem? (l := wsX11_prizes_r1) (i := 17) rfl))), (List.forall_mem_cons.mpr ⟨List.mem_cons_of_mem _ (List.mem_append_left _ (List.mem_append_left _ (List.mem_of_getElem? (l := wsX11_prizes_r1) (i := 18) rfl))), (List.forall_mem_cons.mpr ⟨List.mem_cons_of_mem _ (List.mem_append_left _ (List.mem_append_left _ (List.mem_of_getElem? (l := wsX11_prizes_r1) (i := 1) rfl))), (List.forall_mem_cons.mpr ⟨List.mem_cons_of_mem _ (List.mem_append_left _ (List.mem_append_left _ (List.mem_of_getElem? (l := wsX11_prizes_r1) (i := 19) rfl))), (List.forall_mem_cons.mpr ⟨List.mem_cons_of_mem _ (List.mem_append_left _ (List.mem_append_left _ (List.mem_of_getElem? (l := wsX11_prizes_r1) (i := 20) rfl))), (List.forall_mem_cons.mpr ⟨List.mem_cons_of_mem _ (List.mem_append_left _ (List.mem_append_left _ (List.mem_of_getElem? (l := wsX11_prizes_r1) (i := 21) rfl))), (List.forall_mem_cons.mpr ⟨List.mem_cons_of_mem _ (List.mem_append_left _ (List.mem_append_left _ (List.mem_of_getElem? (l := wsX11_prizes_r1) (i := 22) rfl))), (List.forall_mem_cons.mpr ⟨List.mem_cons_of_mem _ (List.mem_append_left _ (List.mem_append_left _ (List.mem_of_getElem? (l := wsX11_prizes_r1) (i := 23) rfl))), (List.forall_mem_cons.mpr ⟨List.mem_cons_of_mem _ (List.mem_append_left _ (List.mem_append_right _ (List.mem_append_left _ (List.mem_of_getElem? (l := wsX11_prizes_r2) (i := 0) rfl)))), (List.forall_mem_cons.mpr ⟨List.mem_cons_of_mem _ (List.mem_append_left _ (List.mem_append_right _ (List.mem_append_left _ (List.mem_of_getElem? (l := wsX11_prizes_r2) (i := 1) rfl)))), (List.forall_mem_cons.mpr ⟨List.mem_cons_of_mem _ (List.mem_append_left _ (List.mem_append_right _ (List.mem_append_left _ (List.mem_of_getElem? (l := wsX11_prizes_r2) (i := 2) rfl)))), (List.forall_mem_cons.mpr ⟨List.mem_cons_of_mem _ (List.mem_append_left _ (List.mem_append_right _ (List.mem_append_left _ (List.mem_of_getElem? (l := wsX11_prizes_r2) (i := 3) rfl)))), (List.forall_mem_cons.mpr ⟨List.mem_cons_of_mem _ (List.mem_append_left _ (List.mem_append_right _ (List.mem_append_left _ (List.mem_of_getElem? (l := wsX11_prizes_r2) (i := 4) rfl)))), (fun _ h => nomatch h)⟩)⟩)⟩)⟩)⟩)⟩)⟩)⟩)⟩)⟩)⟩)⟩)⟩)⟩)⟩)⟩)⟩)⟩)⟩)⟩)⟩)⟩)⟩)⟩), (List.forall_mem_append.mpr ⟨(List.forall_mem_cons.mpr ⟨List.mem_cons_of_mem _ (List.mem_append_left _ (List.mem_append_right _ (List.mem_append_left _ (List.mem_of_getElem? (l := wsX11_prizes_r2) (i := 5) rfl)))), (List.forall_mem_cons.mpr ⟨List.mem_cons_of_mem _ (List.mem_append_left _ (List.mem_append_right _ (List.mem_append_left _ (List.mem_of_getElem? (l := wsX11_prizes_r2) (i := 6) rfl)))), (List.forall_mem_cons.mpr ⟨List.mem_cons_of_mem _ (List.mem_append_left _ (List.mem_append_right _ (List.mem_append_left _ (List.mem_of_getElem? (l := wsX11_prizes_r2) (i := 7) rfl)))), (List.forall_mem_cons.mpr ⟨List.mem_cons_of_mem _ (List.mem_append_left _ (List.mem_append_right _ (List.mem_append_left _ (List.mem_of_getElem? (l := wsX11_prizes_r2) (i := 8) rfl)))), (List.forall_mem_cons.mpr ⟨List.mem_cons_of_mem _ (List.mem_append_left _ (List.mem_append_right _ (List.mem_append_left _ (List.mem_of_getElem? (l := wsX11_prizes_r2) (i := 9) rfl)))), (List.forall_mem_cons.mpr ⟨List.mem_cons_of_mem _ (List.mem_append_left _ (List.mem_append_right _ (List.mem_append_left _ (List.mem_of_getElem? (l := wsX11_prizes_r2) (i := 10) rfl)))), (List.forall_mem_cons.mpr ⟨List.mem_cons_of_mem _ (List.mem_append_left _ (List.mem_append_right _ (List.mem_append_left _ (List.mem_of_getElem? (l := wsX11_prizes_r2) (i := 11) rfl)))), (List.forall_mem_cons.mpr ⟨List.mem_cons_of_mem _ (List.mem_append_left _ (List.mem_append_right _ (List.mem_append_left _ (List.mem_of_getElem? (l := wsX11_prizes_r2) (i := 12) rfl)))), (List.forall_mem_cons.mpr ⟨List.mem_cons_of_mem _ (List.mem_append_left _ (List.mem_append_right _ (List.mem_append_left _ (List.mem_of_getElem? (l := wsX11_prizes_r2) (i := 13) rfl)))), (List.forall_mem_cons.mpr ⟨List.mem_cons_of_mem _ (List.mem_append_left _ (List.mem_append_right _ (List.mem_append_left _ (List.mem_of_getElem? (l := wsX11_prizes_r2) (i := 14) rfl)))), (List.forall_mem_cons.mpr ⟨List.mem_cons_of_mem _ (List.mem_append_left _ (List.mem_append_right _ (List.mem_append_left _ (List.mem_of_getElem? (l := wsX11_prizes_r2) (i := 15) rfl)))), (List.forall_mem_cons.mpr ⟨List.mem_cons_of_mem _ (List.mem_append_left _ (List.mem_append_right _ (List.mem_append_left _ (List.mem_of_getElem? (l := wsX11_prizes_r2) (i := 16) rfl)))), (List.forall_mem_cons.mpr ⟨List.mem_cons_of_mem _ (List.mem_append_left _ (List.mem_append_right _ (List.mem_append_left _ (List.mem_of_getElem? (l := wsX11_prizes_r2) (i := 17) rfl)))), (List.forall_mem_cons.mpr ⟨List.mem_cons_of_mem _ (List.mem_append_left _ (List.mem_append_right _ (List.mem_append_left _ (List.mem_of_getElem? (l := wsX11_prizes_r2) (i := 18) rfl)))), (List.forall_mem_cons.mpr ⟨List.mem_cons_of_mem _ (List.mem_append_left _ (List.mem_append_right _ (List.mem_append_left _ (List.mem_of_getElem? (l := wsX11_prizes_r2) (i := 19) rfl)))), (List.forall_mem_cons.mpr ⟨List.mem_cons_of_mem _ (List.mem_append_left _ (List.mem_append_right _ (List.mem_append_left _ (List.mem_of_getElem? (l := wsX11_prizes_r2) (i := 20) rfl)))), (List.forall_mem_cons.mpr ⟨List.mem_cons_of_mem _ (List.mem_append_left _ (List.mem_append_right _ (List.mem_append_left _ (List.mem_of_getElem? (l := wsX11_prizes_r2) (i := 21) rfl)))), (List.forall_mem_cons.mpr ⟨List.mem_cons_of_mem _ (List.mem_append_left _ (List.mem_append_right _ (List.mem_append_left _ (List.mem_of_getElem? (l := wsX11_prizes_r2) (i := 22) rfl)))), (List.forall_mem_cons.mpr ⟨List.mem_cons_of_mem _ (List.mem_append_left _ (List.mem_append_right _ (List.mem_append_left _ (List.mem_of_getElem? (l := wsX11_prizes_r2) (i := 23) rfl)))), (List.forall_mem_cons.mpr ⟨List.mem_cons_of_mem _ (List.mem_append_left _ (List.mem_append_right _ (List.mem_append_right _ (List.mem_append_left _ (List.mem_of_getElem? (l := wsX11_prizes_r3) (i := 0) rfl))))), (List.forall_mem_cons.mpr ⟨List.mem_cons_of_mem _ (List.mem_append_left _ (List.mem_append_right _ (List.mem_append_right _ (List.mem_append_left _ (List.mem_of_getElem? (l := wsX11_prizes_r3) (i := 1) rfl))))), (List.forall_mem_cons.mpr ⟨List.mem_cons_of_mem _ (List.mem_append_left _ (List.mem_append_right _ (List.mem_append_right _ (List.mem_append_left _ (List.mem_of_getElem? (l := wsX11_prizes_r3) (i := 2) rfl))))), (List.forall_mem_cons.mpr ⟨List.mem_cons_of_mem _ (List.mem_append_left _ (List.mem_append_right _ (List.mem_append_right _ (List.mem_append_left _ (List.mem_of_getElem? (l := wsX11_prizes_r3) (i := 3) rfl))))), (List.forall_mem_cons.mpr ⟨List.mem_cons_of_mem _ (List.mem_append_left _ (List.mem_append_right _ (List.mem_append_right _ (List.mem_append_left _ (List.mem_of_getElem? (l := wsX11_prizes_r3) (i := 4) rfl))))), (fun _ h => nomatch h)⟩)⟩)⟩)⟩)⟩)⟩)⟩)⟩)⟩)⟩)⟩)⟩)⟩)⟩)⟩)⟩)⟩)⟩)⟩)⟩)⟩)⟩)⟩)⟩), (List.forall_mem_append.mpr ⟨(List.forall_mem_cons.mpr ⟨List.mem_cons_of_mem _ (List.mem_append_left _ (List.mem_append_right _ (List.mem_append_right _ (List.mem_append_left _ (List.mem_of_getElem? (l := wsX11_prizes_r3) (i := 5) rfl))))), (List.forall_mem_cons.mpr ⟨List.mem_cons_of_mem _ (List.mem_append_left _ (List.mem_append_right _ (List.mem_append_right _ (List.mem_append_left _ (List.mem_of_getElem? (l := wsX11_prizes_r3) (i := 6) rfl))))), (List.forall_mem_cons.mpr ⟨List.mem_cons_of_mem _ (List.mem_append_left _ (List.mem_append_right _ (List.mem_append_right _ (List.mem_append_left _ (List.mem_of_getElem? (l := wsX11_prizes_r3) (i := 7) rfl))))), (List.forall_mem_cons.mpr ⟨List.mem_cons_of_mem _ (List.mem_append_left _ (List.mem_append_right _ (List.mem_append_right _ (List.mem_append_left _ (List.mem_of_getElem? (l := wsX11_prizes_r3) (i := 8) rfl))))), (List.forall_mem_cons.mpr ⟨List.mem_cons_of_mem _ (List.mem_append_left _ (List.mem_append_right _ (List.mem_append_right _ (List.mem_append_left _ (List.mem_of_getElem? (l := wsX11_prizes_r3) (i := 9) rfl))))), (List.forall_mem_cons.mpr ⟨List.mem_cons_of_mem _ (List.mem_append_left _ (List.mem_append_right _ (List.mem_append_right _ (List.mem_append_left _ (List.mem_of_getElem? (l := wsX11_prizes_r3) (i := 10) rfl))))), (List.forall_mem_cons.mpr ⟨List.mem_cons_of_mem _ (List.mem_append_left _ (List.mem_append_right _ (List.mem_append_right _ (List.mem_append_left _ (List.mem_of_getElem? (l := wsX11_prizes_r3) (i := 11) rfl))))), (List.forall_mem_cons.mpr ⟨List.mem_cons_of_mem _ (List.mem_append_left _ (List.mem_append_right _ (List.mem_append_right _ (List.mem_append_left _ (List.mem_of_getElem? (l := wsX11_prizes_r3) (i := 12) rfl))))), (List.forall_mem_cons.mpr ⟨List.mem_cons_of_mem _ (List.mem_append_left _ (List.mem_append_right _ (List.mem_append_right _ (List.mem_append_left _ (List.mem_of_getElem? (l := wsX11_prizes_r3) (i := 13) rfl))))), (List.forall_mem_cons.mpr ⟨List.mem_cons_of_mem _ (List.mem_append_left _ (List.mem_append_right _ (List.mem_append_right _ (List.mem_append_left _ (List.mem_of_getElem? (l := wsX11_prizes_r3) (i := 14) rfl))))), (List.forall_mem_cons.mpr ⟨List.mem_cons_of_mem _ (List.mem_append_left _ (List.mem_append_right _ (List.mem_append_right _ (List.mem_append_left _ (List.mem_of_getElem? (l := wsX11_prizes_r3) (i := 15) rfl))))), (List.forall_mem_cons.mpr ⟨List.mem_cons_of_mem _ (List.mem_append_left _ (List.mem_append_right _ (List.mem_append_right _ (List.mem_append_left _ (List.mem_of_getElem? (l := wsX11_prizes_r3) (i := 16) rfl))))), (List.forall_mem_cons.mpr ⟨List.mem_cons_of_mem _ (List.mem_append_left _ (List.mem_append_right _ (List.mem_append_right _ (List.mem_append_left _ (List.mem_of_getElem? (l := wsX11_prizes_r3) (i := 17) rfl))))), (List.forall_mem_cons.mpr ⟨List.mem_cons_of_mem _ (List.mem_append_left _ (List.mem_append_right _ (List.mem_append_right _ (List.mem_append_left _ (List.mem_of_getElem? (l := wsX11_prizes_r3) (i := 18) rfl))))), (List.forall_mem_cons.mpr ⟨List.mem_cons_of_mem _ (List.mem_append_left _ (List.mem_append_right _ (List.mem_append_right _ (List.mem_append_left _ (List.mem_of_getElem? (l := wsX11_prizes_r3) (i := 19) rfl))))), (List.forall_mem_cons.mpr ⟨List.mem_cons_of_mem _ (List.mem_append_left _ (List.mem_append_right _ (List.mem_append_right _ (List.mem_append_left _ (List.mem_of_getElem? (l := wsX11_prizes_r3) (i := 20) rfl))))), (List.forall_mem_cons.mpr ⟨List.mem_cons_of_mem _ (List.mem_append_left _ (List.mem_append_right _ (List.mem_append_right _ (List.mem_append_left _ (List.mem_of_getElem? (l := wsX11_prizes_r3) (i := 21) rfl))))), (List.forall_mem_cons.mpr ⟨List.mem_cons_of_mem _ (List.mem_append_left _ (List.mem_append_right _ (List.mem_append_right _ (List.mem_append_left _ (List.mem_of_getElem? (l := wsX11_prizes_r3) (i := 22) rfl))))), (List.forall_mem_cons.mpr ⟨List.mem_cons_of_mem _ (List.mem_append_left _ (List.mem_append_right _ (List.mem_append_right _ (List.mem_append_left _ (List.mem_of_getElem? (l := wsX11_prizes_r3) (i := 23) rfl))))), (List.forall_mem_cons.mpr ⟨List.mem_cons_of_mem _ (List.mem_append_left _ (List.mem_append_right _ (List.mem_append_right _ (List.mem_append_right _ (List.mem_append_left _ (List.mem_of_getElem? (l := wsX11_prizes_r4) (i := 0) rfl)))))), (List.forall_mem_cons.mpr ⟨List.mem_cons_of_mem _ (List.mem_append_left _ (List.mem_append_right _ (List.mem_append_right _ (List.mem_append_right _ (List.mem_append_left _ (List.mem_of_getElem? (l := wsX11_prizes_r4) (i := 1) rfl)))))), (List.forall_mem_cons.mpr ⟨List.mem_cons_of_mem _ (List.mem_append_left _ (List.mem_append_right _ (List.mem_append_right _ (List.mem_append_right _ (List.mem_append_left _ (List.mem_of_getElem? (l := wsX11_prizes_r4) (i := 2) rfl)))))), (List.forall_mem_cons.mpr ⟨List.mem_cons_of_mem _ (List.mem_append_left _ (List.mem_append_right _ (List.mem_append_right _ (List.mem_append_right _ (List.mem_append_left _ (List.mem_of_getElem? (l := wsX11_prizes_r4) (i := 3) rfl)))))), (List.forall_mem_cons.mpr ⟨List.mem_cons_of_mem _ (List.mem_append_left _ (List.mem_append_right _ (List.mem_append_right _ (List.mem_append_right _ (List.mem_append_left _ (List.mem_of_getElem? (l := wsX11_prizes_r4) (i := 4) rfl)))))), (fun _ h => nomatch h)⟩)⟩)⟩)⟩)⟩)⟩)⟩)⟩)⟩)⟩)⟩)⟩)⟩)⟩)⟩)⟩)⟩)⟩)⟩)⟩)⟩)⟩)⟩)⟩), (List.forall_mem_cons.mpr ⟨List.mem_cons_of_mem _ (List.mem_append_left _ (List.mem_append_right _ (List.mem_append_right _ (List.mem_append_right _ (List.mem_append_left _ (List.mem_of_getElem? (l := wsX11_prizes_r4) (i := 5) rfl)))))), (List.forall_mem_cons.mpr ⟨List.mem_cons_of_mem _ (List.mem_append_left _ (List.mem_append_right _ (List.mem_append_right _ (List.mem_append_right _ (List.mem_append_left _ (List.mem_of_getElem? (l := wsX11_prizes_r4) (i := 6) rfl)))))), (List.forall_mem_cons.mpr ⟨List.mem_cons_of_mem _ (List.mem_append_left _ (List.mem_append_right _ (List.mem_append_right _ (List.mem_append_right _ (List.mem_append_left _ (List.mem_of_getElem? (l := wsX11_prizes_r4) (i := 7) rfl)))))), (List.forall_mem_cons.mpr ⟨List.mem_cons_of_mem _ (List.mem_append_left _ (List.mem_append_right _ (List.mem_append_right _ (List.mem_append_right _ (List.mem_append_left _ (List.mem_of_getElem? (l := wsX11_prizes_r4) (i := 8) rfl)))))), (List.forall_mem_cons.mpr ⟨List.mem_cons_of_mem _ (List.mem_append_left _ (List.mem_append_right _ (List.mem_append_right _ (List.mem_append_right _ (List.mem_append_left _ (List.mem_of_getElem? (l := wsX11_prizes_r4) (i := 9) rfl)))))), (List.forall_mem_cons.mpr ⟨List.mem_cons_of_mem _ (List.mem_append_left _ (List.mem_append_right _ (List.mem_append_right _ (List.mem_append_right _ (List.mem_append_left _ (List.mem_of_getElem? (l := wsX11_prizes_r4) (i := 10) rfl)))))), (List.forall_mem_cons.mpr ⟨List.mem_cons_of_mem _ (List.mem_append_left _ (List.mem_append_right _ (List.mem_append_right _ (List.mem_append_right _ (List.mem_append_left _ (List.mem_of_getElem? (l := wsX11_prizes_r4) (i := 11) rfl)))))), (List.forall_mem_cons.mpr ⟨List.mem_cons_of_mem _ (List.mem_append_left _ (List.mem_append_right _ (List.mem_append_right _ (List.mem_append_right _ (List.mem_append_left _ (List.mem_of_getElem? (l := wsX11_prizes_r4) (i := 12) rfl)))))), (List.forall_mem_cons.mpr ⟨List.mem_cons_of_mem _ (List.mem_append_left _ (List.mem_append_right _ (List.mem_append_right _ (List.mem_append_right _ (List.mem_append_left _ (List.mem_of_getElem? (l := wsX11_prizes_r4) (i := 13) rfl)))))), (List.forall_mem_cons.mpr ⟨List.mem_cons_of_mem _ (List.mem_append_left _ (List.mem_append_right _ (List.mem_append_right _ (List.mem_append_right _ (List.mem_append_left _ (List.mem_of_getElem? (l := wsX11_prizes_r4) (i := 14) rfl)))))), (List.forall_mem_cons.mpr ⟨List.mem_cons_of_mem _ (List.mem_append_left _ (List.mem_append_right _ (List.mem_append_right _ (List.mem_append_right _ (List.mem_append_left _ (List.mem_of_getElem? (l := wsX11_prizes_r4) (i := 15) rfl)))))), (List.forall_mem_cons.mpr ⟨List.mem_cons_of_mem _ (List.mem_append_left _ (List.mem_append_right _ (List.mem_append_right _ (List.mem_append_right _ (List.mem_append_left _ (List.mem_of_getElem? (l := wsX11_prizes_r4) (i := 16) rfl)))))), (List.forall_mem_cons.mpr ⟨List.mem_cons_of_mem _ (List.mem_append_left _ (List.mem_append_right _ (List.mem_append_right _ (List.mem_append_right _ (List.mem_append_left _ (List.mem_of_getElem? (l := wsX11_prizes_r4) (i := 17) rfl)))))), (List.forall_mem_cons.mpr ⟨List.mem_cons_of_mem _ (List.mem_append_left _ (List.mem_append_right _ (List.mem_append_right _ (List.mem_append_right _ (List.mem_append_left _ (List.mem_of_getElem? (l := wsX11_prizes_r4) (i := 18) rfl)))))), (List.forall_mem_cons.mpr ⟨List.mem_cons_of_mem _ (List.mem_append_left _ (List.mem_append_right _ (List.mem_append_right _ (List.mem_append_right _ (List.mem_append_left _ (List.mem_of_getElem? (l := wsX11_prizes_r4) (i := 19) rfl)))))), (List.forall_mem_cons.mpr ⟨List.mem_cons_of_mem _ (List.mem_append_left _ (List.mem_append_right _ (List.mem_append_right _ (List.mem_append_right _ (List.mem_append_left _ (List.mem_of_getElem? (l := wsX11_prizes_r4) (i := 20) rfl)))))), (List.forall_mem_cons.mpr ⟨List.mem_cons_of_mem _ (List.mem_append_left _ (List.mem_append_right _ (List.mem_append_right _ (List.mem_append_right _ (List.mem_append_left _ (List.mem_of_getElem? (l := wsX11_prizes_r4) (i := 21) rfl)))))), (List.forall_mem_cons.mpr ⟨List.mem_cons_of_mem _ (List.mem_append_left _ (List.mem_append_right _ (List.mem_append_right _ (List.mem_append_right _ (List.mem_append_left _ (List.mem_of_getElem? (l := wsX11_prizes_r4) (i := 22) rfl)))))), (List.forall_mem_cons.mpr ⟨List.mem_cons_of_mem _ (List.mem_append_left _ (List.mem_append_right _ (List.mem_append_right _ (List.mem_append_right _ (List.mem_append_left _ (List.mem_of_getElem? (l := wsX11_prizes_r4) (i := 23) rfl)))))), (List.forall_mem_cons.mpr ⟨List.mem_cons_of_mem _ (List.mem_append_left _ (List.mem_append_right _ (List.mem_append_right _ (List.mem_append_right _ (List.mem_append_right _ (List.mem_of_getElem? (l := wsX11_prizes_r5) (i := 0) rfl)))))), (List.forall_mem_cons.mpr ⟨List.mem_cons_of_mem _ (List.mem_append_left _ (List.mem_append_right _ (List.mem_append_right _ (List.mem_append_right _ (List.mem_append_right _ (List.mem_of_getElem? (l := wsX11_prizes_r5) (i := 1) rfl)))))), (List.forall_mem_cons.mpr ⟨List.mem_cons_of_mem _ (List.mem_append_left _ (List.mem_append_right _ (List.mem_append_right _ (List.mem_append_right _ (List.mem_append_right _ (List.mem_of_getElem? (l := wsX11_prizes_r5) (i := 2) rfl)))))), (List.forall_mem_cons.mpr ⟨List.mem_cons_of_mem _ (List.mem_append_left _ (List.mem_append_right _ (List.mem_append_right _ (List.mem_append_right _ (List.mem_append_right _ (List.mem_of_getElem? (l := wsX11_prizes_r5) (i := 3) rfl)))))), (List.forall_mem_cons.mpr ⟨List.mem_cons_of_mem _ (List.mem_append_left _ (List.mem_append_right _ (List.mem_append_right _ (List.mem_append_right _ (List.mem_append_right _ (List.mem_of_getElem? (l := wsX11_prizes_r5) (i := 4) rfl)))))), (fun _ h => nomatch h)⟩)⟩)⟩)⟩)⟩)⟩)⟩)⟩)⟩)⟩)⟩)⟩)⟩)⟩)⟩)⟩)⟩)⟩)⟩)⟩)⟩)⟩)⟩)⟩)⟩)⟩)⟩), (fun _ h => List.mem_cons_of_mem _ (List.mem_append_right _ (h)))⟩)⟩) (by decide +kernel)
set_option maxRecDepth 20000 in
theorem gX11_prizes_X11_list : GoodIn wsX11_prizes (wsV RX11 201 RX11 yX11_list wsX11_list) := goodIn_app (goodIn_of _ (by decide +kernel)) ggX11_prizes_X11_list
set_option maxRecDepth 20000 in
theorem ggX11_prizes_X11_placeOf : GoodIn wsX11_prizes wsX11_placeOf := goodIn_sub (List.forall_mem_cons.mpr ⟨List.mem_cons_of_mem _ (List.mem_append_left _ (List.mem_append_right _ (List.mem_append_right _ (List.mem_append_right _ (List.mem_append_right _ (List.mem_of_getElem? (l := wsX11_prizes_r5) (i := 8) rfl)))))), (List.forall_mem_append.mpr ⟨(List.forall_mem_cons.mpr ⟨List.mem_cons_of_mem _ (List.mem_append_left _ (List.mem_append_left _ (List.mem_of_getElem? (l := wsX11_prizes_r1) (i := 2) rfl))), (List.forall_mem_cons.mpr ⟨List.mem_cons_of_mem _ (List.mem_append_left _ (List.mem_append_left _ (List.mem_of_getElem? (l := wsX11_prizes_r1) (i := 10) rfl))), (fun _ h => nomatch h)⟩)⟩), (fun _ h => List.mem_cons_of_mem _ (List.mem_append_right _ (h)))⟩)⟩) (by decide +kernel)
set_option maxRecDepth 20000 in
theorem gX11_prizes_X11_placeOf : GoodIn wsX11_prizes (wsV RX11 204 RX11 yX11_placeOf wsX11_placeOf) := goodIn_app (goodIn_of _ (by decide +kernel)) ggX11_prizes_X11_placeOf
theorem kX11_prizes_0 : (.fieldLink RX11 37 "RunDeskModel" "thrown" "I" : Cond) ∈ wsX11_prizes := List.mem_of_getElem? (i := 1) (by decide +kernel)
theorem qX11_prizes_X11 : ∀ w ∈ wsX110, w ∈ wsX11_prizes := fun _ h => List.mem_cons_of_mem _ (List.mem_append_right _ (h))
theorem kX11_prizes_2 : (.fieldLink RX11 192 "RunDeskModel" "prizeMost" "I" : Cond) ∈ wsX11_prizes := List.mem_of_getElem? (i := 2) (by decide +kernel)
theorem kX11_prizes_3 : (.fieldLink RX11 198 "RunDeskModel" "listed" "I" : Cond) ∈ wsX11_prizes := List.mem_of_getElem? (i := 3) (by decide +kernel)
set_option maxHeartbeats 4000000 in
set_option maxRecDepth 100000 in
theorem mX11_prizes (l : Launch) (D : va_G) (cB cI cZ : ClassId) (a_t : Nat) (a_t_now : Nat) (a_t_kept : Nat) (a_t_text : Nat) (a_t_passing : Nat) (a_t_order : Nat) (a_t_times : Nat) (t_thrown : Int32) (t_isKept : Int32) (t_length : Int32) (t_at : Int32) (t_fault : Int32) (t_open : Int32) (t_asked : Int32) (t_byGun : Int32) (t_prizeMost : Int32) (t_listed : Int32) (t_now : Nat → Int32) (t_order : Nat → Int32) (t_text : Nat → Int32) (t_times : Nat → Int32) (sz : Nat) (N : Nat) (r0 : Int32) (t_asked' : Int32) (t_at' : Int32) (t_byGun' : Int32) (t_fault' : Int32) (t_listed' : Int32) (t_open' : Int32) (t_prizeMost' : Int32) (t_thrown' : Int32) (t_order' : Nat → Int32) (t_times' : Nat → Int32) (h : fX11_prizes N t_asked t_at t_byGun t_fault t_length t_listed t_open t_prizeMost t_thrown t_now t_order t_text t_times = some (r0, t_asked', t_at', t_byGun', t_fault', t_listed', t_open', t_prizeMost', t_thrown', t_order', t_times')) : Met l yX11_prizes wsX11_prizes ({ frames := 31, cells := 0, slots := 0, locals := 710 } : Room) (va_Pc [.ref a_t] (zPre D (zT cB cI cZ) [(a_t, .inr (11, [.int t_thrown, .ref a_t_now, .ref a_t_kept, .int t_isKept, .ref a_t_text, .int t_length, .ref a_t_passing, .int t_at, .int t_fault, .int t_open, .int t_asked, .int t_byGun, .int t_prizeMost, .ref a_t_order, .ref a_t_times, .int t_listed])), (a_t_now, .inl (cI, 1562, .inl t_now)), (a_t_order, .inl (cI, 60, .inl t_order)), (a_t_text, .inl (cB, 200, .inl t_text)), (a_t_times, .inl (cI, 60, .inl t_times))] sz)) (zQi r0 D (zT cB cI cZ) [(a_t, .inr (11, [.int t_thrown', .ref a_t_now, .ref a_t_kept, .int t_isKept, .ref a_t_text, .int t_length, .ref a_t_passing, .int t_at', .int t_fault', .int t_open', .int t_asked', .int t_byGun', .int t_prizeMost', .ref a_t_order, .ref a_t_times, .int t_listed'])), (a_t_now, .inl (cI, 1562, .inl t_now)), (a_t_order, .inl (cI, 60, .inl t_order')), (a_t_text, .inl (cB, 200, .inl t_text)), (a_t_times, .inl (cI, 60, .inl t_times'))] (va_A [(a_t, .inr (11, [.int t_thrown, .ref a_t_now, .ref a_t_kept, .int t_isKept, .ref a_t_text, .int t_length, .ref a_t_passing, .int t_at, .int t_fault, .int t_open, .int t_asked, .int t_byGun, .int t_prizeMost, .ref a_t_order, .ref a_t_times, .int t_listed])), (a_t_now, .inl (cI, 1562, .inl t_now)), (a_t_order, .inl (cI, 60, .inl t_order)), (a_t_text, .inl (cB, 200, .inl t_text)), (a_t_times, .inl (cI, 60, .inl t_times))] sz)) 0 0 (va_A [(a_t, .inr (11, [.int t_thrown, .ref a_t_now, .ref a_t_kept, .int t_isKept, .ref a_t_text, .int t_length, .ref a_t_passing, .int t_at, .int t_fault, .int t_open, .int t_asked, .int t_byGun, .int t_prizeMost, .ref a_t_order, .ref a_t_times, .int t_listed])), (a_t_now, .inl (cI, 1562, .inl t_now)), (a_t_order, .inl (cI, 60, .inl t_order)), (a_t_text, .inl (cB, 200, .inl t_text)), (a_t_times, .inl (cI, 60, .inl t_times))] sz) := by
  refine Met.ofW (cc := cX11_prizes) (maxL := 4) (ret := (some .int)) (by decide) rfl ?_
  intro p e s m args below meth c s₁ B hml hv
  obtain ⟨rfl, hsz, hP, hK, hN, hZ, hD0⟩ := hv
  have hx := B.exec
  have hb := B.bytes
  have hr := B.returns
  have hts := atoms_spec (ws := wsX11_prizes) B.pre
  have hown : s.vm.findClass RX11 = some m.cls := findClass_of_methodNamed B.named
  have hlocks := B.notSynchronized
  subst hsz
  have hD := hD0.self (sz := s.heap.size)
  generalize hAe : va_A [(a_t, .inr (11, [.int t_thrown, .ref a_t_now, .ref a_t_kept, .int t_isKept, .ref a_t_text, .int t_length, .ref a_t_passing, .int t_at, .int t_fault, .int t_open, .int t_asked, .int t_byGun, .int t_prizeMost, .ref a_t_order, .ref a_t_times, .int t_listed])), (a_t_now, .inl (cI, 1562, .inl t_now)), (a_t_order, .inl (cI, 60, .inl t_order)), (a_t_text, .inl (cB, 200, .inl t_text)), (a_t_times, .inl (cI, 60, .inl t_times))] s.heap.size = A at hD hZ ⊢
  have hA : ∀ q : Nat, s.heap.size ≤ q → A q := fun q h => by rw [← hAe]; exact Or.inr h
  have hS : va_S A s.heap s.heap [] := va_S.rf
  have hl := lv_entry ([.ref a_t]) (n := 4) (Nat.le_of_ble_eq_true rfl)
  rw [lg_entry_eq]
  generalize (lg_sl ([.ref a_t]) ++ List.replicate (4 - (lg_sl ([.ref a_t])).length) Slot.unset).toArray = ls at hl ⊢
  have hl : lv_has ls 4 [(0, .ref a_t)] := hl
  unfold fX11_prizes at h
  refine lv_aload_n hx hb dX11_prizes_0 rfl (lv_at hl 0 rfl) ?_
  refine lv_iconst (v := (nI 0)) hx hb dX11_prizes_1 rfl ?_
  refine va_put (D := D) (ci := 11) (ty := .int) (C := RX11) (T := TX11) (N := 16) hx hb hts qX11_prizes_X11 tyX11 tyX11_ok nmX11 hown hK hP hD hS 0 rfl rfl 0 (by decide) (hts _ kX11_prizes_0) (fun _ h9 => h9) rfl (by decide +kernel) rfl (by first | rfl | exact zz_fit) (Nat.le_of_ble_eq_true rfl) dX11_prizes_2 (fun H locs hP hD hS => ?_)
  have hP : va_P D vwCl [(a_t, .inr (11, [.int (nI 0), .ref a_t_now, .ref a_t_kept, .int t_isKept, .ref a_t_text, .int t_length, .ref a_t_passing, .int t_at, .int t_fault, .int t_open, .int t_asked, .int t_byGun, .int t_prizeMost, .ref a_t_order, .ref a_t_times, .int t_listed])), (a_t_now, .inl (cI, 1562, .inl t_now)), (a_t_order, .inl (cI, 60, .inl t_order)), (a_t_text, .inl (cB, 200, .inl t_text)), (a_t_times, .inl (cI, 60, .inl t_times))] H := hP
  have hD : va_D A [(a_t, .inr (11, [.int (nI 0), .ref a_t_now, .ref a_t_kept, .int t_isKept, .ref a_t_text, .int t_length, .ref a_t_passing, .int t_at, .int t_fault, .int t_open, .int t_asked, .int t_byGun, .int t_prizeMost, .ref a_t_order, .ref a_t_times, .int t_listed])), (a_t_now, .inl (cI, 1562, .inl t_now)), (a_t_order, .inl (cI, 60, .inl t_order)), (a_t_text, .inl (cB, 200, .inl t_text)), (a_t_times, .inl (cI, 60, .inl t_times))] := hD
  refine lv_aload_n hx hb dX11_prizes_5 rfl (lv_at hl 0 rfl) ?_
  obtain ⟨⟨b1, t_asked_r2, t_at_r3, t_byGun_r4, t_fault_r5, t_listed_r6, t_open_r7, t_prizeMost_r8, t_order_r9, t_times_r10⟩, e11, h⟩ := zz_b h
  dsimp only at h
  refine zVi (As := []) (rest := []) (C := RX11) (wr := []) [0, 1, 2, 3, 4] [] 0 ⟨hx, hb, hml, hown, hts⟩ (mX11_list l D cB cI cZ a_t a_t_now a_t_kept a_t_text a_t_passing a_t_order a_t_times (nI 0) t_isKept t_length t_at t_fault t_open t_asked t_byGun t_prizeMost t_listed t_now t_order t_text t_times H.size N b1 t_asked_r2 t_at_r3 t_byGun_r4 t_fault_r5 t_listed_r6 t_open_r7 t_prizeMost_r8 t_order_r9 t_times_r10 e11) (cwV 0 hts gX11_prizes_X11_list rfl rfl rfl (by decide +kernel) ⟨Nat.le_of_ble_eq_true rfl, Nat.le_of_ble_eq_true rfl⟩) hK hN hZ hP hD hS hA rfl rfl rfl rfl rfl rfl rfl rfl hl.1 rfl (lv_room (Nat.le_of_ble_eq_true rfl)) dX11_prizes_6 ⟨Nat.le_of_ble_eq_true rfl, Nat.le_of_ble_eq_true rfl⟩ (fun H locs hP hD hS => ?_)
  have hP : va_P D vwCl [(a_t, .inr (11, [.int (nI 0), .ref a_t_now, .ref a_t_kept, .int t_isKept, .ref a_t_text, .int t_length, .ref a_t_passing, .int t_at_r3, .int t_fault_r5, .int t_open_r7, .int t_asked_r2, .int t_byGun_r4, .int t_prizeMost_r8, .ref a_t_order, .ref a_t_times, .int t_listed_r6])), (a_t_now, .inl (cI, 1562, .inl t_now)), (a_t_order, .inl (cI, 60, .inl t_order_r9)), (a_t_text, .inl (cB, 200, .inl t_text)), (a_t_times, .inl (cI, 60, .inl t_times_r10))] H := hP
  have hD : va_D A [(a_t, .inr (11, [.int (nI 0), .ref a_t_now, .ref a_t_kept, .int t_isKept, .ref a_t_text, .int t_length, .ref a_t_passing, .int t_at_r3, .int t_fault_r5, .int t_open_r7, .int t_asked_r2, .int t_byGun_r4, .int t_prizeMost_r8, .ref a_t_order, .ref a_t_times, .int t_listed_r6])), (a_t_now, .inl (cI, 1562, .inl t_now)), (a_t_order, .inl (cI, 60, .inl t_order_r9)), (a_t_text, .inl (cB, 200, .inl t_text)), (a_t_times, .inl (cI, 60, .inl t_times_r10))] := hD
  refine lv_if_ne (tgt := 14) hx hb dX11_prizes_9 (by decide) (fun c12 => ?_) (fun c12 => ?_)
  · have h := zz_f h c12
    refine lv_aload_n hx hb dX11_prizes_14 rfl (lv_at hl 0 rfl) ?_
    refine va_get (D := D) (ci := 11) (C := RX11) (T := TX11) (N := 16) hx hb hts qX11_prizes_X11 hown hK hP 0 rfl rfl 12 (by decide) (hts _ kX11_prizes_2) (fun _ h9 => h9) rfl dX11_prizes_15 ?_
    refine lv_istore_n (lv' := [(1, .int t_prizeMost_r8), (0, .ref a_t)]) hx hb dX11_prizes_18 rfl hl (by decide) rfl (fun ls hl => ?_)
    refine lv_iconst (v := (nI 0)) hx hb dX11_prizes_19 rfl ?_
    refine lv_istore_n (lv' := [(2, .int (nI 0)), (1, .int t_prizeMost_r8), (0, .ref a_t)]) hx hb dX11_prizes_20 rfl hl (by decide) rfl (fun ls hl => ?_)
    refine lv_iconst (v := (nI 0)) hx hb dX11_prizes_21 rfl ?_
    refine lv_istore_n (lv' := [(3, .int (nI 0)), (2, .int (nI 0)), (1, .int t_prizeMost_r8), (0, .ref a_t)]) hx hb dX11_prizes_22 rfl hl (by decide) rfl (fun ls hl => ?_)
    have X23_54 : ∀ (v2_23 : Int32) (v3_23 : Int32) (H : Heap) (locs : List Loc) (ls : Array Slot), some (v2_23, t_asked_r2, t_at_r3, t_byGun_r4, t_fault_r5, t_listed_r6, t_open_r7, t_prizeMost_r8, (nI 0), t_order_r9, t_times_r10) = some (r0, t_asked', t_at', t_byGun', t_fault', t_listed', t_open', t_prizeMost', t_thrown', t_order', t_times') → va_P D vwCl [(a_t, .inr (11, [.int (nI 0), .ref a_t_now, .ref a_t_kept, .int t_isKept, .ref a_t_text, .int t_length, .ref a_t_passing, .int t_at_r3, .int t_fault_r5, .int t_open_r7, .int t_asked_r2, .int t_byGun_r4, .int t_prizeMost_r8, .ref a_t_order, .ref a_t_times, .int t_listed_r6])), (a_t_now, .inl (cI, 1562, .inl t_now)), (a_t_order, .inl (cI, 60, .inl t_order_r9)), (a_t_text, .inl (cB, 200, .inl t_text)), (a_t_times, .inl (cI, 60, .inl t_times_r10))] H → va_D A [(a_t, .inr (11, [.int (nI 0), .ref a_t_now, .ref a_t_kept, .int t_isKept, .ref a_t_text, .int t_length, .ref a_t_passing, .int t_at_r3, .int t_fault_r5, .int t_open_r7, .int t_asked_r2, .int t_byGun_r4, .int t_prizeMost_r8, .ref a_t_order, .ref a_t_times, .int t_listed_r6])), (a_t_now, .inl (cI, 1562, .inl t_now)), (a_t_order, .inl (cI, 60, .inl t_order_r9)), (a_t_text, .inl (cB, 200, .inl t_text)), (a_t_times, .inl (cI, 60, .inl t_times_r10))] → va_S A s.heap H locs → lv_has ls 4 [(3, .int v3_23), (2, .int v2_23), (1, .int t_prizeMost_r8), (0, .ref a_t)] → W p l e (headSpec wsX11_prizes ({ frames := 31, cells := 0, slots := 0, locals := 710 } : Room)).room s m #[Value.ref a_t] below meth c H locs 0 0 (MQ below (zQi r0 D (zT cB cI cZ) [(a_t, .inr (11, [.int t_thrown', .ref a_t_now, .ref a_t_kept, .int t_isKept, .ref a_t_text, .int t_length, .ref a_t_passing, .int t_at', .int t_fault', .int t_open', .int t_asked', .int t_byGun', .int t_prizeMost', .ref a_t_order, .ref a_t_times, .int t_listed'])), (a_t_now, .inl (cI, 1562, .inl t_now)), (a_t_order, .inl (cI, 60, .inl t_order')), (a_t_text, .inl (cB, 200, .inl t_text)), (a_t_times, .inl (cI, 60, .inl t_times'))] A) #[Value.ref a_t] s 0 0 A) (F0 m 54 ls []) := by
      intro v2_23 v3_23 H locs ls h hP hD hS hl
      refine lv_iload_n hx hb dX11_prizes_54 rfl (lv_at hl 1 rfl) ?_
      obtain ⟨j0_, g_⟩ := Prod.mk.inj (Option.some.inj h)
      obtain ⟨j1_, g_⟩ := Prod.mk.inj g_
      obtain ⟨j2_, g_⟩ := Prod.mk.inj g_
      obtain ⟨j3_, g_⟩ := Prod.mk.inj g_
      obtain ⟨j4_, g_⟩ := Prod.mk.inj g_
      obtain ⟨j5_, g_⟩ := Prod.mk.inj g_
      obtain ⟨j6_, g_⟩ := Prod.mk.inj g_
      obtain ⟨j7_, g_⟩ := Prod.mk.inj g_
      obtain ⟨j8_, g_⟩ := Prod.mk.inj g_
      obtain ⟨j9_, g_⟩ := Prod.mk.inj g_
      have j10_ := g_
      subst j0_
      subst j1_
      subst j2_
      subst j3_
      subst j4_
      subst j5_
      subst j6_
      subst j7_
      subst j8_
      subst j9_
      subst j10_
      exact W.iret (v := v2_23) hx hb hr (fun t ht hW => ⟨⟨_, (), rfl, rfl, zPost.of hP hD hK ht hW [0, 1, 2, 3, 4] rfl rfl rfl⟩, hS.F ht⟩) hS.2.2 dX11_prizes_55
    have L23 : ∀ (n : Nat) (v2_23 : Int32) (v3_23 : Int32) (H : Heap) (locs : List Loc) (ls : Array Slot), fX11_prizes_L23 N t_listed_r6 t_prizeMost_r8 t_times_r10 (fun (v2_23 : Int32) (v3_23 : Int32) => some (v2_23, t_asked_r2, t_at_r3, t_byGun_r4, t_fault_r5, t_listed_r6, t_open_r7, t_prizeMost_r8, (nI 0), t_order_r9, t_times_r10)) n v2_23 v3_23 = some (r0, t_asked', t_at', t_byGun', t_fault', t_listed', t_open', t_prizeMost', t_thrown', t_order', t_times') → va_P D vwCl [(a_t, .inr (11, [.int (nI 0), .ref a_t_now, .ref a_t_kept, .int t_isKept, .ref a_t_text, .int t_length, .ref a_t_passing, .int t_at_r3, .int t_fault_r5, .int t_open_r7, .int t_asked_r2, .int t_byGun_r4, .int t_prizeMost_r8, .ref a_t_order, .ref a_t_times, .int t_listed_r6])), (a_t_now, .inl (cI, 1562, .inl t_now)), (a_t_order, .inl (cI, 60, .inl t_order_r9)), (a_t_text, .inl (cB, 200, .inl t_text)), (a_t_times, .inl (cI, 60, .inl t_times_r10))] H → va_D A [(a_t, .inr (11, [.int (nI 0), .ref a_t_now, .ref a_t_kept, .int t_isKept, .ref a_t_text, .int t_length, .ref a_t_passing, .int t_at_r3, .int t_fault_r5, .int t_open_r7, .int t_asked_r2, .int t_byGun_r4, .int t_prizeMost_r8, .ref a_t_order, .ref a_t_times, .int t_listed_r6])), (a_t_now, .inl (cI, 1562, .inl t_now)), (a_t_order, .inl (cI, 60, .inl t_order_r9)), (a_t_text, .inl (cB, 200, .inl t_text)), (a_t_times, .inl (cI, 60, .inl t_times_r10))] → va_S A s.heap H locs → lv_has ls 4 [(3, .int v3_23), (2, .int v2_23), (1, .int t_prizeMost_r8), (0, .ref a_t)] → W p l e (headSpec wsX11_prizes ({ frames := 31, cells := 0, slots := 0, locals := 710 } : Room)).room s m #[Value.ref a_t] below meth c H locs 0 0 (MQ below (zQi r0 D (zT cB cI cZ) [(a_t, .inr (11, [.int t_thrown', .ref a_t_now, .ref a_t_kept, .int t_isKept, .ref a_t_text, .int t_length, .ref a_t_passing, .int t_at', .int t_fault', .int t_open', .int t_asked', .int t_byGun', .int t_prizeMost', .ref a_t_order, .ref a_t_times, .int t_listed'])), (a_t_now, .inl (cI, 1562, .inl t_now)), (a_t_order, .inl (cI, 60, .inl t_order')), (a_t_text, .inl (cB, 200, .inl t_text)), (a_t_times, .inl (cI, 60, .inl t_times'))] A) #[Value.ref a_t] s 0 0 A) (F0 m 23 ls []) := by
      intro n
      induction n with
      | zero => intro _ _ H locs ls h hP hD hS hl; cases h
      | succ n23 ih23 =>
        intro v2_23 v3_23 H locs ls h hP hD hS hl
        rw [fX11_prizes_L23.eq_2] at h
        refine lv_iload_n hx hb dX11_prizes_23 rfl (lv_at hl 0 rfl) ?_
        refine lv_aload_n hx hb dX11_prizes_24 rfl (lv_at hl 3 rfl) ?_
        refine va_get (D := D) (ci := 11) (C := RX11) (T := TX11) (N := 16) hx hb hts qX11_prizes_X11 hown hK hP 0 rfl rfl 15 (by decide) (hts _ kX11_prizes_3) (fun _ h9 => h9) rfl dX11_prizes_25 ?_
        refine lv_icmp_ge (tgt := 54) hx hb dX11_prizes_28 (by decide) (fun c13 => ?_) (fun c13 => ?_)
        · have h := zz_t h c13
          exact X23_54 v2_23 v3_23 _ _ _ h (hP.sub [0, 1, 2, 3, 4] rfl) (hD.sub [0, 1, 2, 3, 4] rfl rfl) hS (lv_sub hl [0, 1, 2, 3] rfl)
        · have h := zz_f h c13
          refine lv_iload_n hx hb dX11_prizes_31 rfl (lv_at hl 1 rfl) ?_
          refine lv_aload_n hx hb dX11_prizes_32 rfl (lv_at hl 3 rfl) ?_
          refine lv_iload_n hx hb dX11_prizes_33 rfl (lv_at hl 0 rfl) ?_
          obtain ⟨r14, e15, h⟩ := zz_b h
          refine zVi (As := [.int v3_23]) (rest := [.int v2_23]) (C := RX11) (wr := [(a_t_now, .inl (cI, 1562, .inl t_now)), (a_t_order, .inl (cI, 60, .inl t_order_r9)), (a_t_text, .inl (cB, 200, .inl t_text))]) [0, 4] [1, 2, 3] 0 ⟨hx, hb, hml, hown, hts⟩ (mX11_placeOf l D cB cI cZ a_t a_t_now a_t_kept a_t_text a_t_passing a_t_order a_t_times (nI 0) t_isKept t_length t_at_r3 t_fault_r5 t_open_r7 t_asked_r2 t_byGun_r4 t_prizeMost_r8 t_listed_r6 t_times_r10 H.size v3_23 N r14 e15) (cwV 1 hts gX11_prizes_X11_placeOf rfl rfl rfl (by decide +kernel) ⟨Nat.le_of_ble_eq_true rfl, Nat.le_of_ble_eq_true rfl⟩) hK hN hZ hP hD hS hA rfl rfl rfl rfl rfl rfl rfl rfl hl.1 rfl (lv_room (Nat.le_of_ble_eq_true rfl)) dX11_prizes_34 ⟨Nat.le_of_ble_eq_true rfl, Nat.le_of_ble_eq_true rfl⟩ (fun H locs hP hD hS => ?_)
          have hP : va_P D vwCl [(a_t_now, .inl (cI, 1562, .inl t_now)), (a_t_order, .inl (cI, 60, .inl t_order_r9)), (a_t_text, .inl (cB, 200, .inl t_text)), (a_t, .inr (11, [.int (nI 0), .ref a_t_now, .ref a_t_kept, .int t_isKept, .ref a_t_text, .int t_length, .ref a_t_passing, .int t_at_r3, .int t_fault_r5, .int t_open_r7, .int t_asked_r2, .int t_byGun_r4, .int t_prizeMost_r8, .ref a_t_order, .ref a_t_times, .int t_listed_r6])), (a_t_times, .inl (cI, 60, .inl t_times_r10))] H := hP
          have hD : va_D A [(a_t_now, .inl (cI, 1562, .inl t_now)), (a_t_order, .inl (cI, 60, .inl t_order_r9)), (a_t_text, .inl (cB, 200, .inl t_text)), (a_t, .inr (11, [.int (nI 0), .ref a_t_now, .ref a_t_kept, .int t_isKept, .ref a_t_text, .int t_length, .ref a_t_passing, .int t_at_r3, .int t_fault_r5, .int t_open_r7, .int t_asked_r2, .int t_byGun_r4, .int t_prizeMost_r8, .ref a_t_order, .ref a_t_times, .int t_listed_r6])), (a_t_times, .inl (cI, 60, .inl t_times_r10))] := hD
          refine lv_iload_n hx hb dX11_prizes_37 rfl (lv_at hl 2 rfl) ?_
          refine lv_icmp_gt (tgt := 45) hx hb dX11_prizes_38 (by decide) (fun c16 => ?_) (fun c16 => ?_)
          · have h := zz_t h c16
            refine lv_iconst (v := (nI 0)) hx hb dX11_prizes_45 rfl ?_
            refine lv_iadd hx hb dX11_prizes_46 ?_
            refine lv_istore_n (lv' := [(2, .int (v2_23 + (nI 0))), (3, .int v3_23), (1, .int t_prizeMost_r8), (0, .ref a_t)]) hx hb dX11_prizes_47 rfl hl (by decide) rfl (fun ls hl => ?_)
            refine lv_iinc (v := (v3_23 + (nI 1))) (lv' := [(3, .int (v3_23 + (nI 1))), (2, .int (v2_23 + (nI 0))), (1, .int t_prizeMost_r8), (0, .ref a_t)]) hx hb dX11_prizes_48 hl (k := 1) rfl rfl (by decide) rfl (fun ls hl => ?_)
            refine lv_goto (tgt := 23) hx hb dX11_prizes_51 (by decide) ?_
            exact ih23 (v2_23 + (nI 0)) (v3_23 + (nI 1)) _ _ _ h (hP.sub [3, 0, 1, 2, 4] rfl) (hD.sub [3, 0, 1, 2, 4] rfl rfl) hS (lv_sub hl [0, 1, 2, 3] rfl)
          · have h := zz_f h c16
            refine lv_iconst (v := (nI 1)) hx hb dX11_prizes_41 rfl ?_
            refine lv_goto (tgt := 46) hx hb dX11_prizes_42 (by decide) ?_
            refine lv_iadd hx hb dX11_prizes_46 ?_
            refine lv_istore_n (lv' := [(2, .int (v2_23 + (nI 1))), (3, .int v3_23), (1, .int t_prizeMost_r8), (0, .ref a_t)]) hx hb dX11_prizes_47 rfl hl (by decide) rfl (fun ls hl => ?_)
            refine lv_iinc (v := (v3_23 + (nI 1))) (lv' := [(3, .int (v3_23 + (nI 1))), (2, .int (v2_23 + (nI 1))), (1, .int t_prizeMost_r8), (0, .ref a_t)]) hx hb dX11_prizes_48 hl (k := 1) rfl rfl (by decide) rfl (fun ls hl => ?_)
            refine lv_goto (tgt := 23) hx hb dX11_prizes_51 (by decide) ?_
            exact ih23 (v2_23 + (nI 1)) (v3_23 + (nI 1)) _ _ _ h (hP.sub [3, 0, 1, 2, 4] rfl) (hD.sub [3, 0, 1, 2, 4] rfl rfl) hS (lv_sub hl [0, 1, 2, 3] rfl)
    exact L23 N (nI 0) (nI 0) _ _ _ h hP hD hS hl
  · have h := zz_t h c12
    refine lv_iconst (v := (-1 : Int32)) hx hb dX11_prizes_12 rfl ?_
    obtain ⟨j0_, g_⟩ := Prod.mk.inj (Option.some.inj h)
    obtain ⟨j1_, g_⟩ := Prod.mk.inj g_
    obtain ⟨j2_, g_⟩ := Prod.mk.inj g_
    obtain ⟨j3_, g_⟩ := Prod.mk.inj g_
    obtain ⟨j4_, g_⟩ := Prod.mk.inj g_
    obtain ⟨j5_, g_⟩ := Prod.mk.inj g_
    obtain ⟨j6_, g_⟩ := Prod.mk.inj g_
    obtain ⟨j7_, g_⟩ := Prod.mk.inj g_
    obtain ⟨j8_, g_⟩ := Prod.mk.inj g_
    obtain ⟨j9_, g_⟩ := Prod.mk.inj g_
    have j10_ := g_
    subst j0_
    subst j1_
    subst j2_
    subst j3_
    subst j4_
    subst j5_
    subst j6_
    subst j7_
    subst j8_
    subst j9_
    subst j10_
    exact W.iret (v := (-1 : Int32)) hx hb hr (fun t ht hW => ⟨⟨_, (), rfl, rfl, zPost.of hP hD hK ht hW [0, 1, 2, 3, 4] rfl rfl rfl⟩, hS.F ht⟩) hS.2.2 dX11_prizes_13
/-! RunDeskModel.team -/
theorem dX11_team_0 : decode cX11_team 0 = .ok (.aload_n 0, 1) := by decide +kernel
theorem dX11_team_1 : decode cX11_team 1 = .ok (.iconst 0, 1) := by decide +kernel
theorem dX11_team_2 : decode cX11_team 2 = .ok (.putfield 37, 3) := by decide +kernel
theorem dX11_team_5 : decode cX11_team 5 = .ok (.iload_n 1, 1) := by decide +kernel
theorem dX11_team_6 : decode cX11_team 6 = .ok (.iconst 1, 1) := by decide +kernel
theorem dX11_team_7 : decode cX11_team 7 = .ok (.bipush 9, 2) := by decide +kernel
theorem dX11_team_9 : decode cX11_team 9 = .ok (.invokestatic 52, 3) := by decide +kernel
theorem dX11_team_12 : decode cX11_team 12 = .ok (.ifCond .eq 20, 3) := by decide +kernel
theorem dX11_team_15 : decode cX11_team 15 = .ok (.iload_n 2, 1) := by decide +kernel
theorem dX11_team_16 : decode cX11_team 16 = .ok (.iconst 1, 1) := by decide +kernel
theorem dX11_team_17 : decode cX11_team 17 = .ok (.bipush 10, 2) := by decide +kernel
theorem dX11_team_19 : decode cX11_team 19 = .ok (.invokestatic 52, 3) := by decide +kernel
theorem dX11_team_22 : decode cX11_team 22 = .ok (.ifCond .eq 10, 3) := by decide +kernel
theorem dX11_team_25 : decode cX11_team 25 = .ok (.aload_n 0, 1) := by decide +kernel
theorem dX11_team_26 : decode cX11_team 26 = .ok (.invokevirtual 201, 3) := by decide +kernel
theorem dX11_team_29 : decode cX11_team 29 = .ok (.ifCond .ne 5, 3) := by decide +kernel
theorem dX11_team_32 : decode cX11_team 32 = .ok (.iconst (-1), 1) := by decide +kernel
theorem dX11_team_33 : decode cX11_team 33 = .ok (.ireturn, 1) := by decide +kernel
theorem dX11_team_34 : decode cX11_team 34 = .ok (.iconst 0, 1) := by decide +kernel
theorem dX11_team_35 : decode cX11_team 35 = .ok (.istore_n 3, 1) := by decide +kernel
theorem dX11_team_36 : decode cX11_team 36 = .ok (.iconst 0, 1) := by decide +kernel
theorem dX11_team_37 : decode cX11_team 37 = .ok (.istore 4, 2) := by decide +kernel
theorem dX11_team_39 : decode cX11_team 39 = .ok (.iconst 0, 1) := by decide +kernel
theorem dX11_team_40 : decode cX11_team 40 = .ok (.istore 5, 2) := by decide +kernel
theorem dX11_team_42 : decode cX11_team 42 = .ok (.iload 5, 2) := by decide +kernel
theorem dX11_team_44 : decode cX11_team 44 = .ok (.aload_n 0, 1) := by decide +kernel
theorem dX11_team_45 : decode cX11_team 45 = .ok (.getfield 198, 3) := by decide +kernel
theorem dX11_team_48 : decode cX11_team 48 = .ok (.if_icmp .ge 48, 3) := by decide +kernel
theorem dX11_team_51 : decode cX11_team 51 = .ok (.iload_n 3, 1) := by decide +kernel
theorem dX11_team_52 : decode cX11_team 52 = .ok (.iload_n 2, 1) := by decide +kernel
theorem dX11_team_53 : decode cX11_team 53 = .ok (.if_icmp .ge 43, 3) := by decide +kernel
theorem dX11_team_56 : decode cX11_team 56 = .ok (.aload_n 0, 1) := by decide +kernel
theorem dX11_team_57 : decode cX11_team 57 = .ok (.aload_n 0, 1) := by decide +kernel
theorem dX11_team_58 : decode cX11_team 58 = .ok (.getfield 23, 3) := by decide +kernel
theorem dX11_team_61 : decode cX11_team 61 = .ok (.iload 5, 2) := by decide +kernel
theorem dX11_team_63 : decode cX11_team 63 = .ok (.iaload, 1) := by decide +kernel
theorem dX11_team_64 : decode cX11_team 64 = .ok (.iconst 4, 1) := by decide +kernel
theorem dX11_team_65 : decode cX11_team 65 = .ok (.invokevirtual 62, 3) := by decide +kernel
theorem dX11_team_68 : decode cX11_team 68 = .ok (.iload_n 1, 1) := by decide +kernel
theorem dX11_team_69 : decode cX11_team 69 = .ok (.if_icmp .eq 6, 3) := by decide +kernel
theorem dX11_team_72 : decode cX11_team 72 = .ok (.goto 18, 3) := by decide +kernel
theorem dX11_team_75 : decode cX11_team 75 = .ok (.iload 4, 2) := by decide +kernel
theorem dX11_team_77 : decode cX11_team 77 = .ok (.aload_n 0, 1) := by decide +kernel
theorem dX11_team_78 : decode cX11_team 78 = .ok (.getfield 26, 3) := by decide +kernel
theorem dX11_team_81 : decode cX11_team 81 = .ok (.iload 5, 2) := by decide +kernel
theorem dX11_team_83 : decode cX11_team 83 = .ok (.iaload, 1) := by decide +kernel
theorem dX11_team_84 : decode cX11_team 84 = .ok (.iadd, 1) := by decide +kernel
theorem dX11_team_85 : decode cX11_team 85 = .ok (.istore 4, 2) := by decide +kernel
theorem dX11_team_87 : decode cX11_team 87 = .ok (.iinc 3 1, 3) := by decide +kernel
theorem dX11_team_90 : decode cX11_team 90 = .ok (.iinc 5 1, 3) := by decide +kernel
theorem dX11_team_93 : decode cX11_team 93 = .ok (.goto (-51), 3) := by decide +kernel
theorem dX11_team_96 : decode cX11_team 96 = .ok (.iload_n 3, 1) := by decide +kernel
theorem dX11_team_97 : decode cX11_team 97 = .ok (.iload_n 2, 1) := by decide +kernel
theorem dX11_team_98 : decode cX11_team 98 = .ok (.if_icmp .ne 8, 3) := by decide +kernel
theorem dX11_team_101 : decode cX11_team 101 = .ok (.iload 4, 2) := by decide +kernel
theorem dX11_team_103 : decode cX11_team 103 = .ok (.goto 4, 3) := by decide +kernel
theorem dX11_team_106 : decode cX11_team 106 = .ok (.iconst (-1), 1) := by decide +kernel
theorem dX11_team_107 : decode cX11_team 107 = .ok (.ireturn, 1) := by decide +kernel
set_option maxRecDepth 20000 in
theorem ggX11_team_X11_isIn : GoodIn wsX11_team wsX11_isIn := goodIn_sub (List.forall_mem_cons.mpr ⟨List.mem_cons_of_mem _ (List.mem_append_left _ (List.mem_append_left _ (List.mem_of_getElem? (l := wsX11_team_r1) (i := 7) rfl))), (fun _ h => nomatch h)⟩) (by decide +kernel)
set_option maxRecDepth 20000 in
theorem gX11_team_X11_isIn : GoodIn wsX11_team (va_wsS RX11 52 yX11_isIn wsX11_isIn) := goodIn_app (goodIn_of _ (by decide +kernel)) ggX11_team_X11_isIn
set_option maxRecDepth 20000 in
theorem ggX11_team_X11_list : GoodIn wsX11_team wsX11_list := goodIn_sub (List.forall_mem_cons.mpr ⟨List.mem_cons_of_mem _ (List.mem_append_left _ (List.mem_append_left _ (List.mem_of_getElem? (l := wsX11_team_r1) (i := 11) rfl))), (List.forall_mem_append.mpr ⟨(List.forall_mem_append.mpr ⟨(List.forall_mem_cons.mpr ⟨List.mem_cons_of_mem _ (List.mem_append_left _ (List.mem_append_left _ (List.mem_of_getElem? (l := wsX11_team_r1) (i := 12) rfl))), (List.forall_mem_cons.mpr ⟨List.mem_cons_of_mem _ (List.mem_append_left _ (List.mem_append_left _ (List.mem_of_getElem? (l := wsX11_team_r1) (i := 1) rfl))), (List.forall_mem_cons.mpr ⟨List.mem_cons_of_mem _ (List.mem_append_left _ (List.mem_append_left _ (List.mem_of_getElem? (l := wsX11_team_r1) (i := 13) rfl))), (List.forall_mem_cons.mpr ⟨List.mem_cons_of_mem _ (List.mem_append_left _ (List.mem_append_left _ (List.mem_of_getElem? (l := wsX11_team_r1) (i := 3) rfl))), (List.forall_mem_cons.mpr ⟨List.mem_cons_of_mem _ (List.mem_append_left _ (List.mem_append_left _ (List.mem_of_getElem? (l := wsX11_team_r1) (i := 2) rfl))), (List.forall_mem_cons.mpr ⟨List.mem_cons_of_mem _ (List.mem_append_left _ (List.mem_append_left _ (List.mem_of_getElem? (l := wsX11_team_r1) (i := 14) rfl))), (List.forall_mem_cons.mpr ⟨List.mem_cons_of_mem _ (List.mem_append_left _ (List.mem_append_left _ (List.mem_of_getElem? (l := wsX11_team_r1) (i := 15) rfl))), (List.forall_mem_cons.mpr ⟨List.mem_cons_of_mem _ (List.mem_append_left _ (List.mem_append_left _ (List.mem_of_getElem? (l := wsX11_team_r1) (i := 16) rfl))), (List.forall_mem_cons.mpr ⟨List.mem_cons_of_mem _ (List.mem_append_left _ (List.mem_append_left _ (List.mem_of_getElem? (l := wsX11_team_r1) (i := 6) rfl))), (List.forall_mem_cons.mpr ⟨List.mem_cons_of_mem _ (List.mem_append_left _ (List.mem_append_left _ (List.mem_of_getElem? (l := wsX11_team_r1) (i := 17) rfl))), (List.forall_mem_cons.mpr ⟨List.mem_cons_of_mem _ (List.mem_append_left _ (List.mem_append_left _ (List.mem_of_getElem? (l := wsX11_team_r1) (i := 18) rfl))), (List.forall_mem_cons.mpr ⟨List.mem_cons_of_mem _ (List.mem_append_left _ (List.mem_append_left _ (List.mem_of_getElem? (l := wsX11_team_r1) (i := 19) rfl))), (List.forall_mem_cons.mpr ⟨List.mem_cons_of_mem _ (List.mem_append_left _ (List.mem_append_left _ (List.mem_of_getElem? (l := wsX11_team_r1) (i := 20) rfl))), (List.forall_mem_cons.mpr ⟨List.mem_cons_of_mem _ (List.mem_append_left _ (List.mem_append_left _ (List.mem_of_getElem? (l := wsX11_team_r1) (i := 21) rfl))), (List.forall_mem_cons.mpr ⟨List.mem_cons_of_mem _ (List.mem_append_left _ (List.mem_append_left _ (List.mem_of_getElem? (l := wsX11_team_r1) (i := 22) rfl))), (List.forall_mem_cons.mpr ⟨List.mem_cons_of_mem _ (List.mem_append_left _ (List.mem_append_left _ (List.mem_of_getElem? (l := wsX11_team_r1) (i := 23) rfl))), (List.forall_mem_cons.mpr ⟨List.mem_cons_of_mem _ (List.mem_append_left _ (List.mem_append_right _ (List.mem_append_left _ (List.mem_of_getElem? (l := wsX11_team_r2) (i := 0) rfl)))), (List.forall_mem_cons.mpr ⟨List.mem_cons_of_mem _ (List.mem_append_left _ (List.mem_append_right _ (List.mem_append_left _ (List.mem_of_getElem? (l := wsX11_team_r2) (i := 1) rfl)))), (List.forall_mem_cons.mpr ⟨List.mem_cons_of_mem _ (List.mem_append_left _ (List.mem_append_right _ (List.mem_append_left _ (List.mem_of_getElem? (l := wsX11_team_r2) (i := 2) rfl)))), (List.forall_mem_cons.mpr ⟨List.mem_cons_of_mem _ (List.mem_append_left _ (List.mem_append_right _ (List.mem_append_left _ (List.mem_of_getElem? (l := wsX11_team_r2) (i := 3) rfl)))), (List.forall_mem_cons.mpr ⟨List.mem_cons_of_mem _ (List.mem_append_left _ (List.mem_append_right _ (List.mem_append_left _ (List.mem_of_getElem? (l := wsX11_team_r2) (i := 4) rfl)))), (List.forall_mem_cons.mpr ⟨List.mem_cons_of_mem _ (List.mem_append_left _ (List.mem_append_right _ (List.mem_append_left _ (List.mem_of_getElem? (l := wsX11_team_r2) (i := 5) rfl)))), (List.forall_mem_cons.mpr ⟨List.mem_cons_of_mem _ (List.mem_append_left _ (List.mem_append_right _ (List.mem_append_left _ (List.mem_of_getElem? (l := wsX11_team_r2) (i := 6) rfl)))), (List.forall_mem_cons.mpr ⟨List.mem_cons_of_mem _ (List.mem_append_left _ (List.mem_append_right _ (List.mem_append_left _ (List.mem_of_getElem? (l := wsX11_team_r2) (i := 7) rfl)))), (fun _ h => nomatch h)⟩)⟩)⟩)⟩)⟩)⟩)⟩)⟩)⟩)⟩)⟩)⟩)⟩)⟩)⟩)⟩)⟩)⟩)⟩)⟩)⟩)⟩)⟩)⟩), (List.forall_mem_append.mpr ⟨(List.forall_mem_cons.mpr ⟨List.mem_cons_of_mem _ (List.mem_append_left _ (List.mem_append_right _ (List.mem_append_left _ (List.mem_of_getElem? (l := wsX11_team_r2) (i := 8) rfl)))), (List.forall_mem_cons.mpr ⟨List.mem_cons_of_mem _ (List.mem_append_left _ (List.mem_append_right _ (List.mem_append_left _ (List.mem_of_getElem? (l := wsX11_team_r2) (i := 9) rfl)))), (List.forall_mem_cons.mpr ⟨List.mem_cons_of_mem _ (List.mem_append_left _ (List.mem_append_right _ (List.mem_append_left _ (List.mem_of_getElem? (l := wsX11_team_r2) (i := 10) rfl)))), (List.forall_mem_cons.mpr ⟨List.mem_cons_of_mem _ (List.mem_append_left _ (List.mem_append_right _ (List.mem_append_left _ (List.mem_of_getElem? (l := wsX11_team_r2) (i := 11) rfl)))), (List.forall_mem_cons.mpr ⟨List.mem_cons_of_mem _ (List.mem_append_left _ (List.mem_append_right _ (List.mem_append_left _ (List.mem_of_getElem? (l := wsX11_team_r2) (i := 12) rfl)))), (List.forall_mem_cons.mpr ⟨List.mem_cons_of_mem _ (List.mem_append_left _ (List.mem_append_right _ (List.mem_append_left _ (List.mem_of_getElem? (l := wsX11_team_r2) (i := 13) rfl)))), (List.forall_mem_cons.mpr ⟨List.mem_cons_of_mem _ (List.mem_append_left _ (List.mem_append_right _ (List.mem_append_left _ (List.mem_of_getElem? (l := wsX11_team_r2) (i := 14) rfl)))), (List.forall_mem_cons.mpr ⟨List.mem_cons_of_mem _ (List.mem_append_left _ (List.mem_append_right _ (List.mem_append_left _ (List.mem_of_getElem? (l := wsX11_team_r2) (i := 15) rfl)))), (List.forall_mem_cons.mpr ⟨List.mem_cons_of_mem _ (List.mem_append_left _ (List.mem_append_right _ (List.mem_append_left _ (List.mem_of_getElem? (l := wsX11_team_r2) (i := 16) rfl)))), (List.forall_mem_cons.mpr ⟨List.mem_cons_of_mem _ (List.mem_append_left _ (List.mem_append_right _ (List.mem_append_left _ (List.mem_of_getElem? (l := wsX11_team_r2) (i := 17) rfl)))), (List.forall_mem_cons.mpr ⟨List.mem_cons_of_mem _ (List.mem_append_left _ (List.mem_append_right _ (List.mem_append_left _ (List.mem_of_getElem? (l := wsX11_team_r2) (i := 18) rfl)))), (List.forall_mem_cons.mpr ⟨List.mem_cons_of_mem _ (List.mem_append_left _ (List.mem_append_right _ (List.mem_append_left _ (List.mem_of_getElem? (l := wsX11_team_r2) (i := 19) rfl)))), (List.forall_mem_cons.mpr ⟨List.mem_cons_of_mem _ (List.mem_append_left _ (List.mem_append_right _ (List.mem_append_left _ (List.mem_of_getElem? (l := wsX11_team_r2) (i := 20) rfl)))), (List.forall_mem_cons.mpr ⟨List.mem_cons_of_mem _ (List.mem_append_left _ (List.mem_append_right _ (List.mem_append_left _ (List.mem_of_getElem? (l := wsX11_team_r2) (i := 21) rfl)))), (List.forall_mem_cons.mpr ⟨List.mem_cons_of_mem _ (List.mem_append_left _ (List.mem_append_right _ (List.mem_append_left _ (List.mem_of_getElem? (l := wsX11_team_r2) (i := 22) rfl)))), (List.forall_mem_cons.mpr ⟨List.mem_cons_of_mem _ (List.mem_append_left _ (List.mem_append_right _ (List.mem_append_left _ (List.mem_of_getElem? (l := wsX11_team_r2) (i := 23) rfl)))), (List.forall_mem_cons.mpr ⟨List.mem_cons_of_mem _ (List.mem_append_left _ (List.mem_append_right _ (List.mem_append_right _ (List.mem_append_left _ (List.mem_of_getElem? (l := wsX11_team_r3) (i := 0) rfl))))), (List.forall_mem_cons.mpr ⟨List.mem_cons_of_mem _ (List.mem_append_left _ (List.mem_append_right _ (List.mem_append_right _ (List.mem_append_left _ (List.mem_of_getElem? (l := wsX11_team_r3) (i := 1) rfl))))), (List.forall_mem_cons.mpr ⟨List.mem_cons_of_mem _ (List.mem_append_left _ (List.mem_append_right _ (List.mem_append_right _ (List.mem_append_left _ (List.mem_of_getElem? (l := wsX11_team_r3) (i := 2) rfl))))), (List.forall_mem_cons.mpr ⟨List.mem_cons_of_mem _ (List.mem_append_left _ (List.mem_append_right _ (List.mem_append_right _ (List.mem_append_left _ (List.mem_of_getElem? (l := wsX11_team_r3) (i := 3) rfl))))), (List.forall_mem_cons.mpr ⟨List.mem_cons_of_mem _ (List.mem_append_left _ (List.mem_append_right _ (List.mem_append_right _ (List.mem_append_left _ (List.mem_of_getElem? (l := wsX11_team_r3) (i := 4) rfl))))), (List.forall_mem_cons.mpr ⟨List.mem_cons_of_mem _ (List.mem_append_left _ (List.mem_append_right _ (List.mem_append_right _ (List.mem_append_left _ (List.mem_of_getElem? (l := wsX11_team_r3) (i := 5) rfl))))), (List.forall_mem_cons.mpr ⟨List.mem_cons_of_mem _ (List.mem_append_left _ (List.mem_append_right _ (List.mem_append_right _ (List.mem_append_left _ (List.mem_of_getElem? (l := wsX11_team_r3) (i := 6) rfl))))), (List.forall_mem_cons.mpr ⟨List.mem_cons_of_mem _ (List.mem_append_left _ (List.mem_append_right _ (List.mem_append_right _ (List.mem_append_left _ (List.mem_of_getElem? (l := wsX11_team_r3) (i := 7) rfl))))), (fun _ h => nomatch h)⟩)⟩)⟩)⟩)⟩)⟩)⟩)⟩)⟩)⟩)⟩)⟩)⟩)⟩)⟩)⟩)⟩)⟩)⟩)⟩)⟩)⟩)⟩)⟩), (List.forall_mem_append.mpr ⟨(List.forall_mem_cons.mpr ⟨List.mem_cons_of_mem _ (List.mem_append_left _ (List.mem_append_right _ (List.mem_append_right _ (List.mem_append_left _ (List.mem_of_getElem? (l := wsX11_team_r3) (i := 8) rfl))))), (List.forall_mem_cons.mpr ⟨List.mem_cons_of_mem _ (List.mem_append_left _ (List.mem_append_right _ (List.mem_append_right _ (List.mem_append_left _ (List.mem_of_getElem? (l := wsX11_team_r3) (i := 9) rfl))))), (List.forall_mem_cons.mpr ⟨List.mem_cons_of_mem _ (List.mem_append_left _ (List.mem_append_right _ (List.mem_append_right _ (List.mem_append_left _ (List.mem_of_getElem? (l := wsX11_team_r3) (i := 10) rfl))))), (List.forall_mem_cons.mpr ⟨List.mem_cons_of_mem _ (List.mem_append_left _ (List.mem_append_right _ (List.mem_append_right _ (List.mem_append_left _ (List.mem_of_getElem? (l := wsX11_team_r3) (i := 11) rfl))))), (List.forall_mem_cons.mpr ⟨List.mem_cons_of_mem _ (List.mem_append_left _ (List.mem_append_right _ (List.mem_append_right _ (List.mem_append_left _ (List.mem_of_getElem? (l := wsX11_team_r3) (i := 12) rfl))))), (List.forall_mem_cons.mpr ⟨List.mem_cons_of_mem _ (List.mem_append_left _ (List.mem_append_right _ (List.mem_append_right _ (List.mem_append_left _ (List.mem_of_getElem? (l := wsX11_team_r3) (i := 13) rfl))))), (List.forall_mem_cons.mpr ⟨List.mem_cons_of_mem _ (List.mem_append_left _ (List.mem_append_right _ (List.mem_append_right _ (List.mem_append_left _ (List.mem_of_getElem? (l := wsX11_team_r3) (i := 14) rfl))))), (List.forall_mem_cons.mpr ⟨List.mem_cons_of_mem _ (List.mem_append_left _ (List.mem_append_right _ (List.mem_append_right _ (List.mem_append_left _ (List.mem_of_getElem? (l := wsX11_team_r3) (i := 15) rfl))))), (List.forall_mem_cons.mpr ⟨List.mem_cons_of_mem _ (List.mem_append_left _ (List.mem_append_right _ (List.mem_append_right _ (List.mem_append_left _ (List.mem_of_getElem? (l := wsX11_team_r3) (i := 16) rfl))))), (List.forall_mem_cons.mpr ⟨List.mem_cons_of_mem _ (List.mem_append_left _ (List.mem_append_right _ (List.mem_append_right _ (List.mem_append_left _ (List.mem_of_getElem? (l := wsX11_team_r3) (i := 17) rfl))))), (List.forall_mem_cons.mpr ⟨List.mem_cons_of_mem _ (List.mem_append_left _ (List.mem_append_right _ (List.mem_append_right _ (List.mem_append_left _ (List.mem_of_getElem? (l := wsX11_team_r3) (i := 18) rfl))))), (List.forall_mem_cons.mpr ⟨List.mem_cons_of_mem _ (List.mem_append_left _ (List.mem_append_right _ (List.mem_append_right _ (List.mem_append_left _ (List.mem_of_getElem? (l := wsX11_team_r3) (i := 19) rfl))))), (List.forall_mem_cons.mpr ⟨List.mem_cons_of_mem _ (List.mem_append_left _ (List.mem_append_right _ (List.mem_append_right _ (List.mem_append_left _ (List.mem_of_getElem? (l := wsX11_team_r3) (i := 20) rfl))))), (List.forall_mem_cons.mpr ⟨List.mem_cons_of_mem _ (List.mem_append_left _ (List.mem_append_right _ (List.mem_append_right _ (List.mem_append_left _ (List.mem_of_getElem? (l := wsX11_team_r3) (i := 21) rfl))))), (List.forall_mem_cons.mpr ⟨List.mem_cons_of_mem _ (List.mem_append_left _ (List.mem_append_right _ (List.mem_append_right _ (List.mem_append_left _ (List.mem_of_getElem? (l := wsX11_team_r3) (i := 22) rfl))))), (List.forall_mem_cons.mpr ⟨List.mem_cons_of_mem _ (List.mem_append_left _ (List.mem_append_right _ (List.mem_append_right _ (List.mem_append_left _ (List.mem_of_getElem? (l := wsX11_team_r3) (i := 23) rfl))))), (List.forall_mem_cons.mpr ⟨List.mem_cons_of_mem _ (List.mem_append_left _ (List.mem_append_right _ (List.mem_append_right _ (List.mem_append_right _ (List.mem_append_left _ (List.mem_of_getElem? (l := wsX11_team_r4) (i := 0) rfl)))))), (List.forall_mem_cons.mpr ⟨List.mem_cons_of_mem _ (List.mem_append_left _ (List.mem_append_right _ (List.mem_append_right _ (List.mem_append_right _ (List.mem_append_left _ (List.mem_of_getElem? (l := wsX11_team_r4) (i := 1) rfl)))))), (List.forall_mem_cons.mpr ⟨List.mem_cons_of_mem _ (List.mem_append_left _ (List.mem_append_right _ (List.mem_append_right _ (List.mem_append_right _ (List.mem_append_left _ (List.mem_of_getElem? (l := wsX11_team_r4) (i := 2) rfl)))))), (List.forall_mem_cons.mpr ⟨List.mem_cons_of_mem _ (List.mem_append_left _ (List.mem_append_right _ (List.mem_append_right _ (List.mem_append_right _ (List.mem_append_left _ (List.mem_of_getElem? (l := wsX11_team_r4) (i := 3) rfl)))))), (List.forall_mem_cons.mpr ⟨List.mem_cons_of_mem _ (List.mem_append_left _ (List.mem_append_right _ (List.mem_append_right _ (List.mem_append_right _ (List.mem_append_left _ (List.mem_of_getElem? (l := wsX11_team_r4) (i := 4) rfl)))))), (List.forall_mem_cons.mpr ⟨List.mem_cons_of_mem _ (List.mem_append_left _ (List.mem_append_right _ (List.mem_append_right _ (List.mem_append_right _ (List.mem_append_left _ (List.mem_of_getElem? (l := wsX11_team_r4) (i := 5) rfl)))))), (List.forall_mem_cons.mpr ⟨List.mem_cons_of_mem _ (List.mem_append_left _ (List.mem_append_right _ (List.mem_append_right _ (List.mem_append_right _ (List.mem_append_left _ (List.mem_of_getElem? (l := wsX11_team_r4) (i := 6) rfl)))))), (List.forall_mem_cons.mpr ⟨List.mem_cons_of_mem _ (List.mem_append_left _ (List.mem_append_right _ (List.mem_append_right _ (List.mem_append_right _ (List.mem_append_left _ (List.mem_of_getElem? (l := wsX11_team_r4) (i := 7) rfl)))))), (fun _ h => nomatch h)⟩)⟩)⟩)⟩)⟩)⟩)⟩)⟩)⟩)⟩)⟩)⟩)⟩)⟩)⟩)⟩)⟩)⟩)⟩)⟩)⟩)⟩)⟩)⟩), (List.forall_mem_cons.mpr ⟨List.mem_cons_of_mem _ (List.mem_append_left _ (List.mem_append_right _ (List.mem_append_right _ (List.mem_append_right _ (List.mem_append_left _ (List.mem_of_getElem? (l := wsX11_team_r4) (i := 8) rfl)))))), (List.forall_mem_cons.mpr ⟨List.mem_cons_of_mem _ (List.mem_append_left _ (List.mem_append_right _ (List.mem_append_right _ (List.mem_append_right _ (List.mem_append_left _ (List.mem_of_getElem? (l := wsX11_team_r4) (i := 9) rfl)))))), (List.forall_mem_cons.mpr ⟨List.mem_cons_of_mem _ (List.mem_append_left _ (List.mem_append_right _ (List.mem_append_right _ (List.mem_append_right _ (List.mem_append_left _ (List.mem_of_getElem? (l := wsX11_team_r4) (i := 10) rfl)))))), (List.forall_mem_cons.mpr ⟨List.mem_cons_of_mem _ (List.mem_append_left _ (List.mem_append_right _ (List.mem_append_right _ (List.mem_append_right _ (List.mem_append_left _ (List.mem_of_getElem? (l := wsX11_team_r4) (i := 11) rfl)))))), (List.forall_mem_cons.mpr ⟨List.mem_cons_of_mem _ (List.mem_append_left _ (List.mem_append_right _ (List.mem_append_right _ (List.mem_append_right _ (List.mem_append_left _ (List.mem_of_getElem? (l := wsX11_team_r4) (i := 12) rfl)))))), (List.forall_mem_cons.mpr ⟨List.mem_cons_of_mem _ (List.mem_append_left _ (List.mem_append_right _ (List.mem_append_right _ (List.mem_append_right _ (List.mem_append_left _ (List.mem_of_getElem? (l := wsX11_team_r4) (i := 13) rfl)))))), (List.forall_mem_cons.mpr ⟨List.mem_cons_of_mem _ (List.mem_append_left _ (List.mem_append_right _ (List.mem_append_right _ (List.mem_append_right _ (List.mem_append_left _ (List.mem_of_getElem? (l := wsX11_team_r4) (i := 14) rfl)))))), (List.forall_mem_cons.mpr ⟨List.mem_cons_of_mem _ (List.mem_append_left _ (List.mem_append_right _ (List.mem_append_right _ (List.mem_append_right _ (List.mem_append_left _ (List.mem_of_getElem? (l := wsX11_team_r4) (i := 15) rfl)))))), (List.forall_mem_cons.mpr ⟨List.mem_cons_of_mem _ (List.mem_append_left _ (List.mem_append_right _ (List.mem_append_right _ (List.mem_append_right _ (List.mem_append_left _ (List.mem_of_getElem? (l := wsX11_team_r4) (i := 16) rfl)))))), (List.forall_mem_cons.mpr ⟨List.mem_cons_of_mem _ (List.mem_append_left _ (List.mem_append_right _ (List.mem_append_right _ (List.mem_append_right _ (List.mem_append_left _ (List.mem_of_getElem? (l := wsX11_team_r4) (i := 17) rfl)))))), (List.forall_mem_cons.mpr ⟨List.mem_cons_of_mem _ (List.mem_append_left _ (List.mem_append_right _ (List.mem_append_right _ (List.mem_append_right _ (List.mem_append_left _ (List.mem_of_getElem? (l := wsX11_team_r4) (i := 18) rfl)))))), (List.forall_mem_cons.mpr ⟨List.mem_cons_of_mem _ (List.mem_append_left _ (List.mem_append_right _ (List.mem_append_right _ (List.mem_append_right _ (List.mem_append_left _ (List.mem_of_getElem? (l := wsX11_team_r4) (i := 19) rfl)))))), (List.forall_mem_cons.mpr ⟨List.mem_cons_of_mem _ (List.mem_append_left _ (List.mem_append_right _ (List.mem_append_right _ (List.mem_append_right _ (List.mem_append_left _ (List.mem_of_getElem? (l := wsX11_team_r4) (i := 20) rfl)))))), (List.forall_mem_cons.mpr ⟨List.mem_cons_of_mem _ (List.mem_append_left _ (List.mem_append_right _ (List.mem_append_right _ (List.mem_append_right _ (List.mem_append_left _ (List.mem_of_getElem? (l := wsX11_team_r4) (i := 21) rfl)))))), (List.forall_mem_cons.mpr ⟨List.mem_cons_of_mem _ (List.mem_append_left _ (List.mem_append_right _ (List.mem_append_right _ (List.mem_append_right _ (List.mem_append_left _ (List.mem_of_getElem? (l := wsX11_team_r4) (i := 22) rfl)))))), (List.forall_mem_cons.mpr ⟨List.mem_cons_of_mem _ (List.mem_append_left _ (List.mem_append_right _ (List.mem_append_right _ (List.mem_append_right _ (List.mem_append_left _ (List.mem_of_getElem? (l := wsX11_team_r4) (i := 23) rfl)))))), (List.forall_mem_cons.mpr ⟨List.mem_cons_of_mem _ (List.mem_append_left _ (List.mem_append_right _ (List.mem_append_right _ (List.mem_append_right _ (List.mem_append_right _ (List.mem_of_getElem? (l := wsX11_team_r5) (i := 0) rfl)))))), (List.forall_mem_cons.mpr ⟨List.mem_cons_of_mem _ (List.mem_append_left _ (List.mem_append_right _ (List.mem_append_right _ (List.mem_append_right _ (List.mem_append_right _ (List.mem_of_getElem? (l := wsX11_team_r5) (i := 1) rfl)))))), (List.forall_mem_cons.mpr ⟨List.mem_cons_of_mem _ (List.mem_append_left _ (List.mem_append_right _ (List.mem_append_right _ (List.mem_append_right _ (List.mem_append_right _ (List.mem_of_getElem? (l := wsX11_team_r5) (i := 2) rfl)))))), (List.forall_mem_cons.mpr ⟨List.mem_cons_of_mem _ (List.mem_append_left _ (List.mem_append_right _ (List.mem_append_right _ (List.mem_append_right _ (List.mem_append_right _ (List.mem_of_getElem? (l := wsX11_team_r5) (i := 3) rfl)))))), (List.forall_mem_cons.mpr ⟨List.mem_cons_of_mem _ (List.mem_append_left _ (List.mem_append_right _ (List.mem_append_right _ (List.mem_append_right _ (List.mem_append_right _ (List.mem_of_getElem? (l := wsX11_team_r5) (i := 4) rfl)))))), (List.forall_mem_cons.mpr ⟨List.mem_cons_of_mem _ (List.mem_append_left _ (List.mem_append_right _ (List.mem_append_right _ (List.mem_append_right _ (List.mem_append_right _ (List.mem_of_getElem? (l := wsX11_team_r5) (i := 5) rfl)))))), (List.forall_mem_cons.mpr ⟨List.mem_cons_of_mem _ (List.mem_append_left _ (List.mem_append_right _ (List.mem_append_right _ (List.mem_append_right _ (List.mem_append_right _ (List.mem_of_getElem? (l := wsX11_team_r5) (i := 6) rfl)))))), (List.forall_mem_cons.mpr ⟨List.mem_cons_of_mem _ (List.mem_append_left _ (List.mem_append_right _ (List.mem_append_right _ (List.mem_append_right _ (List.mem_append_right _ (List.mem_of_getElem? (l := wsX11_team_r5) (i := 7) rfl)))))), (fun _ h => nomatch h)⟩)⟩)⟩)⟩)⟩)⟩)⟩)⟩)⟩)⟩)⟩)⟩)⟩)⟩)⟩)⟩)⟩)⟩)⟩)⟩)⟩)⟩)⟩)⟩)⟩)⟩)⟩), (fun _ h => List.mem_cons_of_mem _ (List.mem_append_right _ (h)))⟩)⟩) (by decide +kernel)
set_option maxRecDepth 20000 in
theorem gX11_team_X11_list : GoodIn wsX11_team (wsV RX11 201 RX11 yX11_list wsX11_list) := goodIn_app (goodIn_of _ (by decide +kernel)) ggX11_team_X11_list
set_option maxRecDepth 20000 in
theorem ggX11_team_X11_of : GoodIn wsX11_team wsX11_of := goodIn_sub (List.forall_mem_cons.mpr ⟨List.mem_cons_of_mem _ (List.mem_append_left _ (List.mem_append_right _ (List.mem_append_right _ (List.mem_append_left _ (List.mem_of_getElem? (l := wsX11_team_r3) (i := 14) rfl))))), (List.forall_mem_append.mpr ⟨(List.forall_mem_cons.mpr ⟨List.mem_cons_of_mem _ (List.mem_append_left _ (List.mem_append_right _ (List.mem_append_right _ (List.mem_append_left _ (List.mem_of_getElem? (l := wsX11_team_r3) (i := 15) rfl))))), (fun _ h => nomatch h)⟩), (fun _ h => List.mem_cons_of_mem _ (List.mem_append_right _ (h)))⟩)⟩) (by decide +kernel)
set_option maxRecDepth 20000 in
theorem gX11_team_X11_of : GoodIn wsX11_team (wsV RX11 62 RX11 yX11_of wsX11_of) := goodIn_app (goodIn_of _ (by decide +kernel)) ggX11_team_X11_of
theorem kX11_team_0 : (.fieldLink RX11 37 "RunDeskModel" "thrown" "I" : Cond) ∈ wsX11_team := List.mem_of_getElem? (i := 1) (by decide +kernel)
theorem qX11_team_X11 : ∀ w ∈ wsX110, w ∈ wsX11_team := fun _ h => List.mem_cons_of_mem _ (List.mem_append_right _ (h))
theorem kX11_team_2 : (.fieldLink RX11 198 "RunDeskModel" "listed" "I" : Cond) ∈ wsX11_team := List.mem_of_getElem? (i := 2) (by decide +kernel)
theorem kX11_team_3 : (.fieldLink RX11 23 "RunDeskModel" "order" "[I" : Cond) ∈ wsX11_team := List.mem_of_getElem? (i := 3) (by decide +kernel)
theorem kX11_team_4 : (.fieldLink RX11 26 "RunDeskModel" "times" "[I" : Cond) ∈ wsX11_team := List.mem_of_getElem? (i := 4) (by decide +kernel)
set_option maxHeartbeats 4000000 in
set_option maxRecDepth 100000 in
theorem mX11_team (l : Launch) (D : va_G) (cB cI cZ : ClassId) (a_t : Nat) (a_t_now : Nat) (a_t_kept : Nat) (a_t_text : Nat) (a_t_passing : Nat) (a_t_order : Nat) (a_t_times : Nat) (t_thrown : Int32) (t_isKept : Int32) (t_length : Int32) (t_at : Int32) (t_fault : Int32) (t_open : Int32) (t_asked : Int32) (t_byGun : Int32) (t_prizeMost : Int32) (t_listed : Int32) (t_now : Nat → Int32) (t_order : Nat → Int32) (t_text : Nat → Int32) (t_times : Nat → Int32) (sz : Nat) (x1 : Int32) (x2 : Int32) (N : Nat) (r0 : Int32) (t_asked' : Int32) (t_at' : Int32) (t_byGun' : Int32) (t_fault' : Int32) (t_listed' : Int32) (t_open' : Int32) (t_prizeMost' : Int32) (t_thrown' : Int32) (t_order' : Nat → Int32) (t_times' : Nat → Int32) (h : fX11_team N t_asked t_at t_byGun t_fault t_length t_listed t_open t_prizeMost t_thrown t_now t_order t_text t_times x1 x2 = some (r0, t_asked', t_at', t_byGun', t_fault', t_listed', t_open', t_prizeMost', t_thrown', t_order', t_times')) : Met l yX11_team wsX11_team ({ frames := 31, cells := 0, slots := 0, locals := 710 } : Room) (va_Pc [.ref a_t, .int x1, .int x2] (zPre D (zT cB cI cZ) [(a_t, .inr (11, [.int t_thrown, .ref a_t_now, .ref a_t_kept, .int t_isKept, .ref a_t_text, .int t_length, .ref a_t_passing, .int t_at, .int t_fault, .int t_open, .int t_asked, .int t_byGun, .int t_prizeMost, .ref a_t_order, .ref a_t_times, .int t_listed])), (a_t_now, .inl (cI, 1562, .inl t_now)), (a_t_order, .inl (cI, 60, .inl t_order)), (a_t_text, .inl (cB, 200, .inl t_text)), (a_t_times, .inl (cI, 60, .inl t_times))] sz)) (zQi r0 D (zT cB cI cZ) [(a_t, .inr (11, [.int t_thrown', .ref a_t_now, .ref a_t_kept, .int t_isKept, .ref a_t_text, .int t_length, .ref a_t_passing, .int t_at', .int t_fault', .int t_open', .int t_asked', .int t_byGun', .int t_prizeMost', .ref a_t_order, .ref a_t_times, .int t_listed'])), (a_t_now, .inl (cI, 1562, .inl t_now)), (a_t_order, .inl (cI, 60, .inl t_order')), (a_t_text, .inl (cB, 200, .inl t_text)), (a_t_times, .inl (cI, 60, .inl t_times'))] (va_A [(a_t, .inr (11, [.int t_thrown, .ref a_t_now, .ref a_t_kept, .int t_isKept, .ref a_t_text, .int t_length, .ref a_t_passing, .int t_at, .int t_fault, .int t_open, .int t_asked, .int t_byGun, .int t_prizeMost, .ref a_t_order, .ref a_t_times, .int t_listed])), (a_t_now, .inl (cI, 1562, .inl t_now)), (a_t_order, .inl (cI, 60, .inl t_order)), (a_t_text, .inl (cB, 200, .inl t_text)), (a_t_times, .inl (cI, 60, .inl t_times))] sz)) 0 0 (va_A [(a_t, .inr (11, [.int t_thrown, .ref a_t_now, .ref a_t_kept, .int t_isKept, .ref a_t_text, .int t_length, .ref a_t_passing, .int t_at, .int t_fault, .int t_open, .int t_asked, .int t_byGun, .int t_prizeMost, .ref a_t_order, .ref a_t_times, .int t_listed])), (a_t_now, .inl (cI, 1562, .inl t_now)), (a_t_order, .inl (cI, 60, .inl t_order)), (a_t_text, .inl (cB, 200, .inl t_text)), (a_t_times, .inl (cI, 60, .inl t_times))] sz) := by
  refine Met.ofW (cc := cX11_team) (maxL := 6) (ret := (some .int)) (by decide) rfl ?_
  intro p e s m args below meth c s₁ B hml hv
  obtain ⟨rfl, hsz, hP, hK, hN, hZ, hD0⟩ := hv
  have hx := B.exec
  have hb := B.bytes
  have hr := B.returns
  have hts := atoms_spec (ws := wsX11_team) B.pre
  have hown : s.vm.findClass RX11 = some m.cls := findClass_of_methodNamed B.named
  have hlocks := B.notSynchronized
  subst hsz
  have hD := hD0.self (sz := s.heap.size)
  generalize hAe : va_A [(a_t, .inr (11, [.int t_thrown, .ref a_t_now, .ref a_t_kept, .int t_isKept, .ref a_t_text, .int t_length, .ref a_t_passing, .int t_at, .int t_fault, .int t_open, .int t_asked, .int t_byGun, .int t_prizeMost, .ref a_t_order, .ref a_t_times, .int t_listed])), (a_t_now, .inl (cI, 1562, .inl t_now)), (a_t_order, .inl (cI, 60, .inl t_order)), (a_t_text, .inl (cB, 200, .inl t_text)), (a_t_times, .inl (cI, 60, .inl t_times))] s.heap.size = A at hD hZ ⊢
  have hA : ∀ q : Nat, s.heap.size ≤ q → A q := fun q h => by rw [← hAe]; exact Or.inr h
  have hS : va_S A s.heap s.heap [] := va_S.rf
  have hl := lv_entry ([.ref a_t, .int x1, .int x2]) (n := 6) (Nat.le_of_ble_eq_true rfl)
  rw [lg_entry_eq]
  generalize (lg_sl ([.ref a_t, .int x1, .int x2]) ++ List.replicate (6 - (lg_sl ([.ref a_t, .int x1, .int x2])).length) Slot.unset).toArray = ls at hl ⊢
  have hl : lv_has ls 6 [(0, .ref a_t), (1, .int x1), (2, .int x2)] := hl
  unfold fX11_team at h
  refine lv_aload_n hx hb dX11_team_0 rfl (lv_at hl 0 rfl) ?_
  refine lv_iconst (v := (nI 0)) hx hb dX11_team_1 rfl ?_
  refine va_put (D := D) (ci := 11) (ty := .int) (C := RX11) (T := TX11) (N := 16) hx hb hts qX11_team_X11 tyX11 tyX11_ok nmX11 hown hK hP hD hS 0 rfl rfl 0 (by decide) (hts _ kX11_team_0) (fun _ h9 => h9) rfl (by decide +kernel) rfl (by first | rfl | exact zz_fit) (Nat.le_of_ble_eq_true rfl) dX11_team_2 (fun H locs hP hD hS => ?_)
  have hP : va_P D vwCl [(a_t, .inr (11, [.int (nI 0), .ref a_t_now, .ref a_t_kept, .int t_isKept, .ref a_t_text, .int t_length, .ref a_t_passing, .int t_at, .int t_fault, .int t_open, .int t_asked, .int t_byGun, .int t_prizeMost, .ref a_t_order, .ref a_t_times, .int t_listed])), (a_t_now, .inl (cI, 1562, .inl t_now)), (a_t_order, .inl (cI, 60, .inl t_order)), (a_t_text, .inl (cB, 200, .inl t_text)), (a_t_times, .inl (cI, 60, .inl t_times))] H := hP
  have hD : va_D A [(a_t, .inr (11, [.int (nI 0), .ref a_t_now, .ref a_t_kept, .int t_isKept, .ref a_t_text, .int t_length, .ref a_t_passing, .int t_at, .int t_fault, .int t_open, .int t_asked, .int t_byGun, .int t_prizeMost, .ref a_t_order, .ref a_t_times, .int t_listed])), (a_t_now, .inl (cI, 1562, .inl t_now)), (a_t_order, .inl (cI, 60, .inl t_order)), (a_t_text, .inl (cB, 200, .inl t_text)), (a_t_times, .inl (cI, 60, .inl t_times))] := hD
  refine lv_iload_n hx hb dX11_team_5 rfl (lv_at hl 1 rfl) ?_
  refine lv_iconst (v := (nI 1)) hx hb dX11_team_6 rfl ?_
  refine lv_bipush (v := (nI 9)) hx hb dX11_team_7 rfl ?_
  obtain ⟨b1, e2, h⟩ := zz_b h
  refine zSi (As := [.int x1, .int (nI 1), .int (nI 9)]) (rest := []) (wr := [(a_t, .inr (11, [.int (nI 0), .ref a_t_now, .ref a_t_kept, .int t_isKept, .ref a_t_text, .int t_length, .ref a_t_passing, .int t_at, .int t_fault, .int t_open, .int t_asked, .int t_byGun, .int t_prizeMost, .ref a_t_order, .ref a_t_times, .int t_listed])), (a_t_now, .inl (cI, 1562, .inl t_now)), (a_t_order, .inl (cI, 60, .inl t_order)), (a_t_text, .inl (cB, 200, .inl t_text)), (a_t_times, .inl (cI, 60, .inl t_times))]) [] [0, 1, 2, 3, 4] ⟨hx, hb, hml, hown, hts⟩ (mX11_isIn l D cB cI cZ H.size x1 (nI 1) (nI 9) b1 e2) (va_cwS 3 hts gX11_team_X11_isIn rfl rfl rfl (by decide +kernel) ⟨Nat.le_of_ble_eq_true rfl, Nat.le_of_ble_eq_true rfl⟩) hK hN hZ hP hD hS hA rfl rfl rfl rfl rfl rfl hl.1 rfl (lv_room (Nat.le_of_ble_eq_true rfl)) dX11_team_9 ⟨Nat.le_of_ble_eq_true rfl, Nat.le_of_ble_eq_true rfl⟩ (fun H locs hP hD hS => ?_)
  have hP : va_P D vwCl [(a_t, .inr (11, [.int (nI 0), .ref a_t_now, .ref a_t_kept, .int t_isKept, .ref a_t_text, .int t_length, .ref a_t_passing, .int t_at, .int t_fault, .int t_open, .int t_asked, .int t_byGun, .int t_prizeMost, .ref a_t_order, .ref a_t_times, .int t_listed])), (a_t_now, .inl (cI, 1562, .inl t_now)), (a_t_order, .inl (cI, 60, .inl t_order)), (a_t_text, .inl (cB, 200, .inl t_text)), (a_t_times, .inl (cI, 60, .inl t_times))] H := hP
  have hD : va_D A [(a_t, .inr (11, [.int (nI 0), .ref a_t_now, .ref a_t_kept, .int t_isKept, .ref a_t_text, .int t_length, .ref a_t_passing, .int t_at, .int t_fault, .int t_open, .int t_asked, .int t_byGun, .int t_prizeMost, .ref a_t_order, .ref a_t_times, .int t_listed])), (a_t_now, .inl (cI, 1562, .inl t_now)), (a_t_order, .inl (cI, 60, .inl t_order)), (a_t_text, .inl (cB, 200, .inl t_text)), (a_t_times, .inl (cI, 60, .inl t_times))] := hD
  refine lv_if_eq (tgt := 32) hx hb dX11_team_12 (by decide) (fun c3 => ?_) (fun c3 => ?_)
  · have h := zz_t h c3
    refine lv_iconst (v := (-1 : Int32)) hx hb dX11_team_32 rfl ?_
    obtain ⟨j0_, g_⟩ := Prod.mk.inj (Option.some.inj h)
    obtain ⟨j1_, g_⟩ := Prod.mk.inj g_
    obtain ⟨j2_, g_⟩ := Prod.mk.inj g_
    obtain ⟨j3_, g_⟩ := Prod.mk.inj g_
    obtain ⟨j4_, g_⟩ := Prod.mk.inj g_
    obtain ⟨j5_, g_⟩ := Prod.mk.inj g_
    obtain ⟨j6_, g_⟩ := Prod.mk.inj g_
    obtain ⟨j7_, g_⟩ := Prod.mk.inj g_
    obtain ⟨j8_, g_⟩ := Prod.mk.inj g_
    obtain ⟨j9_, g_⟩ := Prod.mk.inj g_
    have j10_ := g_
    subst j0_
    subst j1_
    subst j2_
    subst j3_
    subst j4_
    subst j5_
    subst j6_
    subst j7_
    subst j8_
    subst j9_
    subst j10_
    exact W.iret (v := (-1 : Int32)) hx hb hr (fun t ht hW => ⟨⟨_, (), rfl, rfl, zPost.of hP hD hK ht hW [0, 1, 2, 3, 4] rfl rfl rfl⟩, hS.F ht⟩) hS.2.2 dX11_team_33
  · have h := zz_f h c3
    refine lv_iload_n hx hb dX11_team_15 rfl (lv_at hl 2 rfl) ?_
    refine lv_iconst (v := (nI 1)) hx hb dX11_team_16 rfl ?_
    refine lv_bipush (v := (nI 10)) hx hb dX11_team_17 rfl ?_
    obtain ⟨b4, e5, h⟩ := zz_b h
    refine zSi (As := [.int x2, .int (nI 1), .int (nI 10)]) (rest := []) (wr := [(a_t, .inr (11, [.int (nI 0), .ref a_t_now, .ref a_t_kept, .int t_isKept, .ref a_t_text, .int t_length, .ref a_t_passing, .int t_at, .int t_fault, .int t_open, .int t_asked, .int t_byGun, .int t_prizeMost, .ref a_t_order, .ref a_t_times, .int t_listed])), (a_t_now, .inl (cI, 1562, .inl t_now)), (a_t_order, .inl (cI, 60, .inl t_order)), (a_t_text, .inl (cB, 200, .inl t_text)), (a_t_times, .inl (cI, 60, .inl t_times))]) [] [0, 1, 2, 3, 4] ⟨hx, hb, hml, hown, hts⟩ (mX11_isIn l D cB cI cZ H.size x2 (nI 1) (nI 10) b4 e5) (va_cwS 3 hts gX11_team_X11_isIn rfl rfl rfl (by decide +kernel) ⟨Nat.le_of_ble_eq_true rfl, Nat.le_of_ble_eq_true rfl⟩) hK hN hZ hP hD hS hA rfl rfl rfl rfl rfl rfl hl.1 rfl (lv_room (Nat.le_of_ble_eq_true rfl)) dX11_team_19 ⟨Nat.le_of_ble_eq_true rfl, Nat.le_of_ble_eq_true rfl⟩ (fun H locs hP hD hS => ?_)
    have hP : va_P D vwCl [(a_t, .inr (11, [.int (nI 0), .ref a_t_now, .ref a_t_kept, .int t_isKept, .ref a_t_text, .int t_length, .ref a_t_passing, .int t_at, .int t_fault, .int t_open, .int t_asked, .int t_byGun, .int t_prizeMost, .ref a_t_order, .ref a_t_times, .int t_listed])), (a_t_now, .inl (cI, 1562, .inl t_now)), (a_t_order, .inl (cI, 60, .inl t_order)), (a_t_text, .inl (cB, 200, .inl t_text)), (a_t_times, .inl (cI, 60, .inl t_times))] H := hP
    have hD : va_D A [(a_t, .inr (11, [.int (nI 0), .ref a_t_now, .ref a_t_kept, .int t_isKept, .ref a_t_text, .int t_length, .ref a_t_passing, .int t_at, .int t_fault, .int t_open, .int t_asked, .int t_byGun, .int t_prizeMost, .ref a_t_order, .ref a_t_times, .int t_listed])), (a_t_now, .inl (cI, 1562, .inl t_now)), (a_t_order, .inl (cI, 60, .inl t_order)), (a_t_text, .inl (cB, 200, .inl t_text)), (a_t_times, .inl (cI, 60, .inl t_times))] := hD
    refine lv_if_eq (tgt := 32) hx hb dX11_team_22 (by decide) (fun c6 => ?_) (fun c6 => ?_)
    · have h := zz_t h c6
      refine lv_iconst (v := (-1 : Int32)) hx hb dX11_team_32 rfl ?_
      obtain ⟨j0_, g_⟩ := Prod.mk.inj (Option.some.inj h)
      obtain ⟨j1_, g_⟩ := Prod.mk.inj g_
      obtain ⟨j2_, g_⟩ := Prod.mk.inj g_
      obtain ⟨j3_, g_⟩ := Prod.mk.inj g_
      obtain ⟨j4_, g_⟩ := Prod.mk.inj g_
      obtain ⟨j5_, g_⟩ := Prod.mk.inj g_
      obtain ⟨j6_, g_⟩ := Prod.mk.inj g_
      obtain ⟨j7_, g_⟩ := Prod.mk.inj g_
      obtain ⟨j8_, g_⟩ := Prod.mk.inj g_
      obtain ⟨j9_, g_⟩ := Prod.mk.inj g_
      have j10_ := g_
      subst j0_
      subst j1_
      subst j2_
      subst j3_
      subst j4_
      subst j5_
      subst j6_
      subst j7_
      subst j8_
      subst j9_
      subst j10_
      exact W.iret (v := (-1 : Int32)) hx hb hr (fun t ht hW => ⟨⟨_, (), rfl, rfl, zPost.of hP hD hK ht hW [0, 1, 2, 3, 4] rfl rfl rfl⟩, hS.F ht⟩) hS.2.2 dX11_team_33
    · have h := zz_f h c6
      refine lv_aload_n hx hb dX11_team_25 rfl (lv_at hl 0 rfl) ?_
      obtain ⟨⟨b7, t_asked_r8, t_at_r9, t_byGun_r10, t_fault_r11, t_listed_r12, t_open_r13, t_prizeMost_r14, t_order_r15, t_times_r16⟩, e17, h⟩ := zz_b h
      dsimp only at h
      refine zVi (As := []) (rest := []) (C := RX11) (wr := []) [0, 1, 2, 3, 4] [] 0 ⟨hx, hb, hml, hown, hts⟩ (mX11_list l D cB cI cZ a_t a_t_now a_t_kept a_t_text a_t_passing a_t_order a_t_times (nI 0) t_isKept t_length t_at t_fault t_open t_asked t_byGun t_prizeMost t_listed t_now t_order t_text t_times H.size N b7 t_asked_r8 t_at_r9 t_byGun_r10 t_fault_r11 t_listed_r12 t_open_r13 t_prizeMost_r14 t_order_r15 t_times_r16 e17) (cwV 0 hts gX11_team_X11_list rfl rfl rfl (by decide +kernel) ⟨Nat.le_of_ble_eq_true rfl, Nat.le_of_ble_eq_true rfl⟩) hK hN hZ hP hD hS hA rfl rfl rfl rfl rfl rfl rfl rfl hl.1 rfl (lv_room (Nat.le_of_ble_eq_true rfl)) dX11_team_26 ⟨Nat.le_of_ble_eq_true rfl, Nat.le_of_ble_eq_true rfl⟩ (fun H locs hP hD hS => ?_)
      have hP : va_P D vwCl [(a_t, .inr (11, [.int (nI 0), .ref a_t_now, .ref a_t_kept, .int t_isKept, .ref a_t_text, .int t_length, .ref a_t_passing, .int t_at_r9, .int t_fault_r11, .int t_open_r13, .int t_asked_r8, .int t_byGun_r10, .int t_prizeMost_r14, .ref a_t_order, .ref a_t_times, .int t_listed_r12])), (a_t_now, .inl (cI, 1562, .inl t_now)), (a_t_order, .inl (cI, 60, .inl t_order_r15)), (a_t_text, .inl (cB, 200, .inl t_text)), (a_t_times, .inl (cI, 60, .inl t_times_r16))] H := hP
      have hD : va_D A [(a_t, .inr (11, [.int (nI 0), .ref a_t_now, .ref a_t_kept, .int t_isKept, .ref a_t_text, .int t_length, .ref a_t_passing, .int t_at_r9, .int t_fault_r11, .int t_open_r13, .int t_asked_r8, .int t_byGun_r10, .int t_prizeMost_r14, .ref a_t_order, .ref a_t_times, .int t_listed_r12])), (a_t_now, .inl (cI, 1562, .inl t_now)), (a_t_order, .inl (cI, 60, .inl t_order_r15)), (a_t_text, .inl (cB, 200, .inl t_text)), (a_t_times, .inl (cI, 60, .inl t_times_r16))] := hD
      refine lv_if_ne (tgt := 34) hx hb dX11_team_29 (by decide) (fun c18 => ?_) (fun c18 => ?_)
      · have h := zz_f h c18
        refine lv_iconst (v := (nI 0)) hx hb dX11_team_34 rfl ?_
        refine lv_istore_n (lv' := [(3, .int (nI 0)), (0, .ref a_t), (1, .int x1), (2, .int x2)]) hx hb dX11_team_35 rfl hl (by decide) rfl (fun ls hl => ?_)
        refine lv_iconst (v := (nI 0)) hx hb dX11_team_36 rfl ?_
        refine lv_istore (lv' := [(4, .int (nI 0)), (3, .int (nI 0)), (0, .ref a_t), (1, .int x1), (2, .int x2)]) hx hb dX11_team_37 hl (by decide) rfl (fun ls hl => ?_)
        refine lv_iconst (v := (nI 0)) hx hb dX11_team_39 rfl ?_
        refine lv_istore (lv' := [(5, .int (nI 0)), (4, .int (nI 0)), (3, .int (nI 0)), (0, .ref a_t), (1, .int x1), (2, .int x2)]) hx hb dX11_team_40 hl (by decide) rfl (fun ls hl => ?_)
        have X42_96 : ∀ (v3_42 : Int32) (v4_42 : Int32) (v5_42 : Int32) (H : Heap) (locs : List Loc) (ls : Array Slot), (if v3_42 = x2 then some (v4_42, t_asked_r8, t_at_r9, t_byGun_r10, t_fault_r11, t_listed_r12, t_open_r13, t_prizeMost_r14, (nI 0), t_order_r15, t_times_r16) else some ((-1 : Int32), t_asked_r8, t_at_r9, t_byGun_r10, t_fault_r11, t_listed_r12, t_open_r13, t_prizeMost_r14, (nI 0), t_order_r15, t_times_r16)) = some (r0, t_asked', t_at', t_byGun', t_fault', t_listed', t_open', t_prizeMost', t_thrown', t_order', t_times') → va_P D vwCl [(a_t, .inr (11, [.int (nI 0), .ref a_t_now, .ref a_t_kept, .int t_isKept, .ref a_t_text, .int t_length, .ref a_t_passing, .int t_at_r9, .int t_fault_r11, .int t_open_r13, .int t_asked_r8, .int t_byGun_r10, .int t_prizeMost_r14, .ref a_t_order, .ref a_t_times, .int t_listed_r12])), (a_t_now, .inl (cI, 1562, .inl t_now)), (a_t_order, .inl (cI, 60, .inl t_order_r15)), (a_t_text, .inl (cB, 200, .inl t_text)), (a_t_times, .inl (cI, 60, .inl t_times_r16))] H → va_D A [(a_t, .inr (11, [.int (nI 0), .ref a_t_now, .ref a_t_kept, .int t_isKept, .ref a_t_text, .int t_length, .ref a_t_passing, .int t_at_r9, .int t_fault_r11, .int t_open_r13, .int t_asked_r8, .int t_byGun_r10, .int t_prizeMost_r14, .ref a_t_order, .ref a_t_times, .int t_listed_r12])), (a_t_now, .inl (cI, 1562, .inl t_now)), (a_t_order, .inl (cI, 60, .inl t_order_r15)), (a_t_text, .inl (cB, 200, .inl t_text)), (a_t_times, .inl (cI, 60, .inl t_times_r16))] → va_S A s.heap H locs → lv_has ls 6 [(5, .int v5_42), (4, .int v4_42), (3, .int v3_42), (0, .ref a_t), (1, .int x1), (2, .int x2)] → W p l e (headSpec wsX11_team ({ frames := 31, cells := 0, slots := 0, locals := 710 } : Room)).room s m #[Value.ref a_t, Value.int x1, Value.int x2] below meth c H locs 0 0 (MQ below (zQi r0 D (zT cB cI cZ) [(a_t, .inr (11, [.int t_thrown', .ref a_t_now, .ref a_t_kept, .int t_isKept, .ref a_t_text, .int t_length, .ref a_t_passing, .int t_at', .int t_fault', .int t_open', .int t_asked', .int t_byGun', .int t_prizeMost', .ref a_t_order, .ref a_t_times, .int t_listed'])), (a_t_now, .inl (cI, 1562, .inl t_now)), (a_t_order, .inl (cI, 60, .inl t_order')), (a_t_text, .inl (cB, 200, .inl t_text)), (a_t_times, .inl (cI, 60, .inl t_times'))] A) #[Value.ref a_t, Value.int x1, Value.int x2] s 0 0 A) (F0 m 96 ls []) := by
          intro v3_42 v4_42 v5_42 H locs ls h hP hD hS hl
          refine lv_iload_n hx hb dX11_team_96 rfl (lv_at hl 2 rfl) ?_
          refine lv_iload_n hx hb dX11_team_97 rfl (lv_at hl 5 rfl) ?_
          refine lv_icmp_ne (tgt := 106) hx hb dX11_team_98 (by decide) (fun c19 => ?_) (fun c19 => ?_)
          · have h := zz_f h c19
            refine lv_iconst (v := (-1 : Int32)) hx hb dX11_team_106 rfl ?_
            obtain ⟨j0_, g_⟩ := Prod.mk.inj (Option.some.inj h)
            obtain ⟨j1_, g_⟩ := Prod.mk.inj g_
            obtain ⟨j2_, g_⟩ := Prod.mk.inj g_
            obtain ⟨j3_, g_⟩ := Prod.mk.inj g_
            obtain ⟨j4_, g_⟩ := Prod.mk.inj g_
            obtain ⟨j5_, g_⟩ := Prod.mk.inj g_
            obtain ⟨j6_, g_⟩ := Prod.mk.inj g_
            obtain ⟨j7_, g_⟩ := Prod.mk.inj g_
            obtain ⟨j8_, g_⟩ := Prod.mk.inj g_
            obtain ⟨j9_, g_⟩ := Prod.mk.inj g_
            have j10_ := g_
            subst j0_
            subst j1_
            subst j2_
            subst j3_
            subst j4_
            subst j5_
            subst j6_
            subst j7_
            subst j8_
            subst j9_
            subst j10_
            exact W.iret (v := (-1 : Int32)) hx hb hr (fun t ht hW => ⟨⟨_, (), rfl, rfl, zPost.of hP hD hK ht hW [0, 1, 2, 3, 4] rfl rfl rfl⟩, hS.F ht⟩) hS.2.2 dX11_team_107
          · have h := zz_t h c19
            refine lv_iload hx hb dX11_team_101 (lv_at hl 1 rfl) ?_
            refine lv_goto (tgt := 107) hx hb dX11_team_103 (by decide) ?_
            obtain ⟨j0_, g_⟩ := Prod.mk.inj (Option.some.inj h)
            obtain ⟨j1_, g_⟩ := Prod.mk.inj g_
            obtain ⟨j2_, g_⟩ := Prod.mk.inj g_
            obtain ⟨j3_, g_⟩ := Prod.mk.inj g_
            obtain ⟨j4_, g_⟩ := Prod.mk.inj g_
            obtain ⟨j5_, g_⟩ := Prod.mk.inj g_
            obtain ⟨j6_, g_⟩ := Prod.mk.inj g_
            obtain ⟨j7_, g_⟩ := Prod.mk.inj g_
            obtain ⟨j8_, g_⟩ := Prod.mk.inj g_
            obtain ⟨j9_, g_⟩ := Prod.mk.inj g_
            have j10_ := g_
            subst j0_
            subst j1_
            subst j2_
            subst j3_
            subst j4_
            subst j5_
            subst j6_
            subst j7_
            subst j8_
            subst j9_
            subst j10_
            exact W.iret (v := v4_42) hx hb hr (fun t ht hW => ⟨⟨_, (), rfl, rfl, zPost.of hP hD hK ht hW [0, 1, 2, 3, 4] rfl rfl rfl⟩, hS.F ht⟩) hS.2.2 dX11_team_107
        have L42 : ∀ (n : Nat) (v3_42 : Int32) (v4_42 : Int32) (v5_42 : Int32) (H : Heap) (locs : List Loc) (ls : Array Slot), fX11_team_L42 t_now x1 x2 t_listed_r12 t_order_r15 t_times_r16 (fun (v3_42 : Int32) (v4_42 : Int32) (v5_42 : Int32) => (if v3_42 = x2 then some (v4_42, t_asked_r8, t_at_r9, t_byGun_r10, t_fault_r11, t_listed_r12, t_open_r13, t_prizeMost_r14, (nI 0), t_order_r15, t_times_r16) else some ((-1 : Int32), t_asked_r8, t_at_r9, t_byGun_r10, t_fault_r11, t_listed_r12, t_open_r13, t_prizeMost_r14, (nI 0), t_order_r15, t_times_r16))) n v3_42 v4_42 v5_42 = some (r0, t_asked', t_at', t_byGun', t_fault', t_listed', t_open', t_prizeMost', t_thrown', t_order', t_times') → va_P D vwCl [(a_t, .inr (11, [.int (nI 0), .ref a_t_now, .ref a_t_kept, .int t_isKept, .ref a_t_text, .int t_length, .ref a_t_passing, .int t_at_r9, .int t_fault_r11, .int t_open_r13, .int t_asked_r8, .int t_byGun_r10, .int t_prizeMost_r14, .ref a_t_order, .ref a_t_times, .int t_listed_r12])), (a_t_now, .inl (cI, 1562, .inl t_now)), (a_t_order, .inl (cI, 60, .inl t_order_r15)), (a_t_text, .inl (cB, 200, .inl t_text)), (a_t_times, .inl (cI, 60, .inl t_times_r16))] H → va_D A [(a_t, .inr (11, [.int (nI 0), .ref a_t_now, .ref a_t_kept, .int t_isKept, .ref a_t_text, .int t_length, .ref a_t_passing, .int t_at_r9, .int t_fault_r11, .int t_open_r13, .int t_asked_r8, .int t_byGun_r10, .int t_prizeMost_r14, .ref a_t_order, .ref a_t_times, .int t_listed_r12])), (a_t_now, .inl (cI, 1562, .inl t_now)), (a_t_order, .inl (cI, 60, .inl t_order_r15)), (a_t_text, .inl (cB, 200, .inl t_text)), (a_t_times, .inl (cI, 60, .inl t_times_r16))] → va_S A s.heap H locs → lv_has ls 6 [(5, .int v5_42), (4, .int v4_42), (3, .int v3_42), (0, .ref a_t), (1, .int x1), (2, .int x2)] → W p l e (headSpec wsX11_team ({ frames := 31, cells := 0, slots := 0, locals := 710 } : Room)).room s m #[Value.ref a_t, Value.int x1, Value.int x2] below meth c H locs 0 0 (MQ below (zQi r0 D (zT cB cI cZ) [(a_t, .inr (11, [.int t_thrown', .ref a_t_now, .ref a_t_kept, .int t_isKept, .ref a_t_text, .int t_length, .ref a_t_passing, .int t_at', .int t_fault', .int t_open', .int t_asked', .int t_byGun', .int t_prizeMost', .ref a_t_order, .ref a_t_times, .int t_listed'])), (a_t_now, .inl (cI, 1562, .inl t_now)), (a_t_order, .inl (cI, 60, .inl t_order')), (a_t_text, .inl (cB, 200, .inl t_text)), (a_t_times, .inl (cI, 60, .inl t_times'))] A) #[Value.ref a_t, Value.int x1, Value.int x2] s 0 0 A) (F0 m 42 ls []) := by
          intro n
          induction n with
          | zero => intro _ _ _ H locs ls h hP hD hS hl; cases h
          | succ n42 ih42 =>
            intro v3_42 v4_42 v5_42 H locs ls h hP hD hS hl
            rw [fX11_team_L42.eq_2] at h
            refine lv_iload hx hb dX11_team_42 (lv_at hl 0 rfl) ?_
            refine lv_aload_n hx hb dX11_team_44 rfl (lv_at hl 3 rfl) ?_
            refine va_get (D := D) (ci := 11) (C := RX11) (T := TX11) (N := 16) hx hb hts qX11_team_X11 hown hK hP 0 rfl rfl 15 (by decide) (hts _ kX11_team_2) (fun _ h9 => h9) rfl dX11_team_45 ?_
            refine lv_icmp_ge (tgt := 96) hx hb dX11_team_48 (by decide) (fun c20 => ?_) (fun c20 => ?_)
            · have h := zz_t h c20
              exact X42_96 v3_42 v4_42 v5_42 _ _ _ h (hP.sub [0, 1, 2, 3, 4] rfl) (hD.sub [0, 1, 2, 3, 4] rfl rfl) hS (lv_sub hl [0, 1, 2, 3, 4, 5] rfl)
            · have h := zz_f h c20
              refine lv_iload_n hx hb dX11_team_51 rfl (lv_at hl 2 rfl) ?_
              refine lv_iload_n hx hb dX11_team_52 rfl (lv_at hl 5 rfl) ?_
              refine lv_icmp_ge (tgt := 96) hx hb dX11_team_53 (by decide) (fun c21 => ?_) (fun c21 => ?_)
              · have h := zz_t h c21
                exact X42_96 v3_42 v4_42 v5_42 _ _ _ h (hP.sub [0, 1, 2, 3, 4] rfl) (hD.sub [0, 1, 2, 3, 4] rfl rfl) hS (lv_sub hl [0, 1, 2, 3, 4, 5] rfl)
              · have h := zz_f h c21
                refine lv_aload_n hx hb dX11_team_56 rfl (lv_at hl 3 rfl) ?_
                refine lv_aload_n hx hb dX11_team_57 rfl (lv_at hl 3 rfl) ?_
                refine va_get (D := D) (ci := 11) (C := RX11) (T := TX11) (N := 16) hx hb hts qX11_team_X11 hown hK hP 0 rfl rfl 13 (by decide) (hts _ kX11_team_3) (fun _ h9 => h9) rfl dX11_team_58 ?_
                refine lv_iload hx hb dX11_team_61 (lv_at hl 0 rfl) ?_
                obtain ⟨i22, h⟩ := zz_i h
                refine va_iald hx hb hK hP 2 1 rfl rfl i22 dX11_team_63 ?_
                refine lv_iconst (v := (nI 4)) hx hb dX11_team_64 rfl ?_
                obtain ⟨r23, e24, h⟩ := zz_b h
                refine zVi (As := [.int (t_order_r15 (v5_42).toNatClampNeg), .int (nI 4)]) (rest := []) (C := RX11) (wr := [(a_t_order, .inl (cI, 60, .inl t_order_r15)), (a_t_text, .inl (cB, 200, .inl t_text)), (a_t_times, .inl (cI, 60, .inl t_times_r16))]) [0, 1] [2, 3, 4] 0 ⟨hx, hb, hml, hown, hts⟩ (mX11_of l D cB cI cZ a_t a_t_now a_t_kept a_t_text a_t_passing a_t_order a_t_times (nI 0) t_isKept t_length t_at_r9 t_fault_r11 t_open_r13 t_asked_r8 t_byGun_r10 t_prizeMost_r14 t_listed_r12 t_now H.size (t_order_r15 (v5_42).toNatClampNeg) (nI 4) r23 e24) (cwV 2 hts gX11_team_X11_of rfl rfl rfl (by decide +kernel) ⟨Nat.le_of_ble_eq_true rfl, Nat.le_of_ble_eq_true rfl⟩) hK hN hZ hP hD hS hA rfl rfl rfl rfl rfl rfl rfl rfl hl.1 rfl (lv_room (Nat.le_of_ble_eq_true rfl)) dX11_team_65 ⟨Nat.le_of_ble_eq_true rfl, Nat.le_of_ble_eq_true rfl⟩ (fun H locs hP hD hS => ?_)
                have hP : va_P D vwCl [(a_t_order, .inl (cI, 60, .inl t_order_r15)), (a_t_text, .inl (cB, 200, .inl t_text)), (a_t_times, .inl (cI, 60, .inl t_times_r16)), (a_t, .inr (11, [.int (nI 0), .ref a_t_now, .ref a_t_kept, .int t_isKept, .ref a_t_text, .int t_length, .ref a_t_passing, .int t_at_r9, .int t_fault_r11, .int t_open_r13, .int t_asked_r8, .int t_byGun_r10, .int t_prizeMost_r14, .ref a_t_order, .ref a_t_times, .int t_listed_r12])), (a_t_now, .inl (cI, 1562, .inl t_now))] H := hP
                have hD : va_D A [(a_t_order, .inl (cI, 60, .inl t_order_r15)), (a_t_text, .inl (cB, 200, .inl t_text)), (a_t_times, .inl (cI, 60, .inl t_times_r16)), (a_t, .inr (11, [.int (nI 0), .ref a_t_now, .ref a_t_kept, .int t_isKept, .ref a_t_text, .int t_length, .ref a_t_passing, .int t_at_r9, .int t_fault_r11, .int t_open_r13, .int t_asked_r8, .int t_byGun_r10, .int t_prizeMost_r14, .ref a_t_order, .ref a_t_times, .int t_listed_r12])), (a_t_now, .inl (cI, 1562, .inl t_now))] := hD
                refine lv_iload_n hx hb dX11_team_68 rfl (lv_at hl 4 rfl) ?_
                refine lv_icmp_eq (tgt := 75) hx hb dX11_team_69 (by decide) (fun c25 => ?_) (fun c25 => ?_)
                · have h := zz_t h c25
                  refine lv_iload hx hb dX11_team_75 (lv_at hl 1 rfl) ?_
                  refine lv_aload_n hx hb dX11_team_77 rfl (lv_at hl 3 rfl) ?_
                  refine va_get (D := D) (ci := 11) (C := RX11) (T := TX11) (N := 16) hx hb hts qX11_team_X11 hown hK hP 3 rfl rfl 14 (by decide) (hts _ kX11_team_4) (fun _ h9 => h9) rfl dX11_team_78 ?_
                  refine lv_iload hx hb dX11_team_81 (lv_at hl 0 rfl) ?_
                  obtain ⟨i26, h⟩ := zz_i h
                  refine va_iald hx hb hK hP 2 1 rfl rfl i26 dX11_team_83 ?_
                  refine lv_iadd hx hb dX11_team_84 ?_
                  refine lv_istore (lv' := [(4, .int (v4_42 + (t_times_r16 (v5_42).toNatClampNeg))), (5, .int v5_42), (3, .int v3_42), (0, .ref a_t), (1, .int x1), (2, .int x2)]) hx hb dX11_team_85 hl (by decide) rfl (fun ls hl => ?_)
                  refine lv_iinc (v := (v3_42 + (nI 1))) (lv' := [(3, .int (v3_42 + (nI 1))), (4, .int (v4_42 + (t_times_r16 (v5_42).toNatClampNeg))), (5, .int v5_42), (0, .ref a_t), (1, .int x1), (2, .int x2)]) hx hb dX11_team_87 hl (k := 2) rfl rfl (by decide) rfl (fun ls hl => ?_)
                  refine lv_iinc (v := (v5_42 + (nI 1))) (lv' := [(5, .int (v5_42 + (nI 1))), (3, .int (v3_42 + (nI 1))), (4, .int (v4_42 + (t_times_r16 (v5_42).toNatClampNeg))), (0, .ref a_t), (1, .int x1), (2, .int x2)]) hx hb dX11_team_90 hl (k := 2) rfl rfl (by decide) rfl (fun ls hl => ?_)
                  refine lv_goto (tgt := 42) hx hb dX11_team_93 (by decide) ?_
                  exact ih42 (v3_42 + (nI 1)) (v4_42 + (t_times_r16 (v5_42).toNatClampNeg)) (v5_42 + (nI 1)) _ _ _ h (hP.sub [3, 4, 0, 1, 2] rfl) (hD.sub [3, 4, 0, 1, 2] rfl rfl) hS (lv_sub hl [0, 2, 1, 3, 4, 5] rfl)
                · have h := zz_f h c25
                  refine lv_goto (tgt := 90) hx hb dX11_team_72 (by decide) ?_
                  refine lv_iinc (v := (v5_42 + (nI 1))) (lv' := [(5, .int (v5_42 + (nI 1))), (4, .int v4_42), (3, .int v3_42), (0, .ref a_t), (1, .int x1), (2, .int x2)]) hx hb dX11_team_90 hl (k := 0) rfl rfl (by decide) rfl (fun ls hl => ?_)
                  refine lv_goto (tgt := 42) hx hb dX11_team_93 (by decide) ?_
                  exact ih42 v3_42 v4_42 (v5_42 + (nI 1)) _ _ _ h (hP.sub [3, 4, 0, 1, 2] rfl) (hD.sub [3, 4, 0, 1, 2] rfl rfl) hS (lv_sub hl [0, 1, 2, 3, 4, 5] rfl)
        exact L42 N (nI 0) (nI 0) (nI 0) _ _ _ h hP hD hS hl
      · have h := zz_t h c18
        refine lv_iconst (v := (-1 : Int32)) hx hb dX11_team_32 rfl ?_
        obtain ⟨j0_, g_⟩ := Prod.mk.inj (Option.some.inj h)
        obtain ⟨j1_, g_⟩ := Prod.mk.inj g_
        obtain ⟨j2_, g_⟩ := Prod.mk.inj g_
        obtain ⟨j3_, g_⟩ := Prod.mk.inj g_
        obtain ⟨j4_, g_⟩ := Prod.mk.inj g_
        obtain ⟨j5_, g_⟩ := Prod.mk.inj g_
        obtain ⟨j6_, g_⟩ := Prod.mk.inj g_
        obtain ⟨j7_, g_⟩ := Prod.mk.inj g_
        obtain ⟨j8_, g_⟩ := Prod.mk.inj g_
        obtain ⟨j9_, g_⟩ := Prod.mk.inj g_
        have j10_ := g_
        subst j0_
        subst j1_
        subst j2_
        subst j3_
        subst j4_
        subst j5_
        subst j6_
        subst j7_
        subst j8_
        subst j9_
        subst j10_
        exact W.iret (v := (-1 : Int32)) hx hb hr (fun t ht hW => ⟨⟨_, (), rfl, rfl, zPost.of hP hD hK ht hW [0, 1, 2, 3, 4] rfl rfl rfl⟩, hS.F ht⟩) hS.2.2 dX11_team_33
/-! RunDeskModel.state -/
theorem dX11_state_0 : decode cX11_state 0 = .ok (.aload_n 0, 1) := by decide +kernel
theorem dX11_state_1 : decode cX11_state 1 = .ok (.iconst 0, 1) := by decide +kernel
theorem dX11_state_2 : decode cX11_state 2 = .ok (.putfield 37, 3) := by decide +kernel
theorem dX11_state_5 : decode cX11_state 5 = .ok (.iconst 0, 1) := by decide +kernel
theorem dX11_state_6 : decode cX11_state 6 = .ok (.istore_n 2, 1) := by decide +kernel
theorem dX11_state_7 : decode cX11_state 7 = .ok (.iconst 0, 1) := by decide +kernel
theorem dX11_state_8 : decode cX11_state 8 = .ok (.istore_n 3, 1) := by decide +kernel
theorem dX11_state_9 : decode cX11_state 9 = .ok (.iload_n 3, 1) := by decide +kernel
theorem dX11_state_10 : decode cX11_state 10 = .ok (.aload_n 0, 1) := by decide +kernel
theorem dX11_state_11 : decode cX11_state 11 = .ok (.invokevirtual 45, 3) := by decide +kernel
theorem dX11_state_14 : decode cX11_state 14 = .ok (.if_icmp .ge 26, 3) := by decide +kernel
theorem dX11_state_17 : decode cX11_state 17 = .ok (.iload_n 2, 1) := by decide +kernel
theorem dX11_state_18 : decode cX11_state 18 = .ok (.aload_n 0, 1) := by decide +kernel
theorem dX11_state_19 : decode cX11_state 19 = .ok (.iload_n 3, 1) := by decide +kernel
theorem dX11_state_20 : decode cX11_state 20 = .ok (.invokevirtual 89, 3) := by decide +kernel
theorem dX11_state_23 : decode cX11_state 23 = .ok (.iload_n 1, 1) := by decide +kernel
theorem dX11_state_24 : decode cX11_state 24 = .ok (.if_icmp .ne 7, 3) := by decide +kernel
theorem dX11_state_27 : decode cX11_state 27 = .ok (.iconst 1, 1) := by decide +kernel
theorem dX11_state_28 : decode cX11_state 28 = .ok (.goto 4, 3) := by decide +kernel
theorem dX11_state_31 : decode cX11_state 31 = .ok (.iconst 0, 1) := by decide +kernel
theorem dX11_state_32 : decode cX11_state 32 = .ok (.iadd, 1) := by decide +kernel
theorem dX11_state_33 : decode cX11_state 33 = .ok (.istore_n 2, 1) := by decide +kernel
theorem dX11_state_34 : decode cX11_state 34 = .ok (.iinc 3 1, 3) := by decide +kernel
theorem dX11_state_37 : decode cX11_state 37 = .ok (.goto (-28), 3) := by decide +kernel
theorem dX11_state_40 : decode cX11_state 40 = .ok (.iload_n 2, 1) := by decide +kernel
theorem dX11_state_41 : decode cX11_state 41 = .ok (.ireturn, 1) := by decide +kernel
set_option maxRecDepth 20000 in
theorem ggX11_state_X11_runners : GoodIn wsX11_state wsX11_runners := goodIn_sub (List.forall_mem_cons.mpr ⟨List.mem_cons_of_mem _ (List.mem_append_left _ (List.mem_append_left _ (List.mem_of_getElem? (l := wsX11_state_r1) (i := 5) rfl))), (List.forall_mem_append.mpr ⟨(List.forall_mem_cons.mpr ⟨List.mem_cons_of_mem _ (List.mem_append_left _ (List.mem_append_left _ (List.mem_of_getElem? (l := wsX11_state_r1) (i := 6) rfl))), (fun _ h => nomatch h)⟩), (fun _ h => List.mem_cons_of_mem _ (List.mem_append_right _ (h)))⟩)⟩) (by decide +kernel)
set_option maxRecDepth 20000 in
theorem gX11_state_X11_runners : GoodIn wsX11_state (wsV RX11 45 RX11 yX11_runners wsX11_runners) := goodIn_app (goodIn_of _ (by decide +kernel)) ggX11_state_X11_runners
set_option maxRecDepth 20000 in
theorem ggX11_state_X11_stateOf : GoodIn wsX11_state wsX11_stateOf := goodIn_sub (List.forall_mem_cons.mpr ⟨List.mem_cons_of_mem _ (List.mem_append_left _ (List.mem_append_left _ (List.mem_of_getElem? (l := wsX11_state_r1) (i := 10) rfl))), (List.forall_mem_append.mpr ⟨(List.forall_mem_append.mpr ⟨(List.forall_mem_cons.mpr ⟨List.mem_cons_of_mem _ (List.mem_append_left _ (List.mem_append_left _ (List.mem_of_getElem? (l := wsX11_state_r1) (i := 11) rfl))), (List.forall_mem_cons.mpr ⟨List.mem_cons_of_mem _ (List.mem_append_left _ (List.mem_append_left _ (List.mem_of_getElem? (l := wsX11_state_r1) (i := 12) rfl))), (List.forall_mem_cons.mpr ⟨List.mem_cons_of_mem _ (List.mem_append_left _ (List.mem_append_left _ (List.mem_of_getElem? (l := wsX11_state_r1) (i := 13) rfl))), (List.forall_mem_cons.mpr ⟨List.mem_cons_of_mem _ (List.mem_append_left _ (List.mem_append_left _ (List.mem_of_getElem? (l := wsX11_state_r1) (i := 4) rfl))), (List.forall_mem_cons.mpr ⟨List.mem_cons_of_mem _ (List.mem_append_left _ (List.mem_append_left _ (List.mem_of_getElem? (l := wsX11_state_r1) (i := 14) rfl))), (List.forall_mem_cons.mpr ⟨List.mem_cons_of_mem _ (List.mem_append_left _ (List.mem_append_left _ (List.mem_of_getElem? (l := wsX11_state_r1) (i := 6) rfl))), (List.forall_mem_cons.mpr ⟨List.mem_cons_of_mem _ (List.mem_append_left _ (List.mem_append_left _ (List.mem_of_getElem? (l := wsX11_state_r1) (i := 15) rfl))), (List.forall_mem_cons.mpr ⟨List.mem_cons_of_mem _ (List.mem_append_left _ (List.mem_append_left _ (List.mem_of_getElem? (l := wsX11_state_r1) (i := 16) rfl))), (List.forall_mem_cons.mpr ⟨List.mem_cons_of_mem _ (List.mem_append_left _ (List.mem_append_left _ (List.mem_of_getElem? (l := wsX11_state_r1) (i := 17) rfl))), (List.forall_mem_cons.mpr ⟨List.mem_cons_of_mem _ (List.mem_append_left _ (List.mem_append_left _ (List.mem_of_getElem? (l := wsX11_state_r1) (i := 18) rfl))), (List.forall_mem_cons.mpr ⟨List.mem_cons_of_mem _ (List.mem_append_left _ (List.mem_append_left _ (List.mem_of_getElem? (l := wsX11_state_r1) (i := 19) rfl))), (List.forall_mem_cons.mpr ⟨List.mem_cons_of_mem _ (List.mem_append_left _ (List.mem_append_left _ (List.mem_of_getElem? (l := wsX11_state_r1) (i := 20) rfl))), (List.forall_mem_cons.mpr ⟨List.mem_cons_of_mem _ (List.mem_append_left _ (List.mem_append_left _ (List.mem_of_getElem? (l := wsX11_state_r1) (i := 21) rfl))), (List.forall_mem_cons.mpr ⟨List.mem_cons_of_mem _ (List.mem_append_left _ (List.mem_append_left _ (List.mem_of_getElem? (l := wsX11_state_r1) (i := 22) rfl))), (List.forall_mem_cons.mpr ⟨List.mem_cons_of_mem _ (List.mem_append_left _ (List.mem_append_left _ (List.mem_of_getElem? (l := wsX11_state_r1) (i := 23) rfl))), (List.forall_mem_cons.mpr ⟨List.mem_cons_of_mem _ (List.mem_append_left _ (List.mem_append_right _ (List.mem_of_getElem? (l := wsX11_state_r2) (i := 0) rfl))), (List.forall_mem_cons.mpr ⟨List.mem_cons_of_mem _ (List.mem_append_left _ (List.mem_append_right _ (List.mem_of_getElem? (l := wsX11_state_r2) (i := 1) rfl))), (List.forall_mem_cons.mpr ⟨List.mem_cons_of_mem _ (List.mem_append_left _ (List.mem_append_right _ (List.mem_of_getElem? (l := wsX11_state_r2) (i := 2) rfl))), (List.forall_mem_cons.mpr ⟨List.mem_cons_of_mem _ (List.mem_append_left _ (List.mem_append_right _ (List.mem_of_getElem? (l := wsX11_state_r2) (i := 3) rfl))), (List.forall_mem_cons.mpr ⟨List.mem_cons_of_mem _ (List.mem_append_left _ (List.mem_append_right _ (List.mem_of_getElem? (l := wsX11_state_r2) (i := 4) rfl))), (List.forall_mem_cons.mpr ⟨List.mem_cons_of_mem _ (List.mem_append_left _ (List.mem_append_right _ (List.mem_of_getElem? (l := wsX11_state_r2) (i := 5) rfl))), (List.forall_mem_cons.mpr ⟨List.mem_cons_of_mem _ (List.mem_append_left _ (List.mem_append_right _ (List.mem_of_getElem? (l := wsX11_state_r2) (i := 6) rfl))), (List.forall_mem_cons.mpr ⟨List.mem_cons_of_mem _ (List.mem_append_left _ (List.mem_append_right _ (List.mem_of_getElem? (l := wsX11_state_r2) (i := 7) rfl))), (List.forall_mem_cons.mpr ⟨List.mem_cons_of_mem _ (List.mem_append_left _ (List.mem_append_right _ (List.mem_of_getElem? (l := wsX11_state_r2) (i := 8) rfl))), (fun _ h => nomatch h)⟩)⟩)⟩)⟩)⟩)⟩)⟩)⟩)⟩)⟩)⟩)⟩)⟩)⟩)⟩)⟩)⟩)⟩)⟩)⟩)⟩)⟩)⟩)⟩), (List.forall_mem_cons.mpr ⟨List.mem_cons_of_mem _ (List.mem_append_left _ (List.mem_append_right _ (List.mem_of_getElem? (l := wsX11_state_r2) (i := 9) rfl))), (List.forall_mem_cons.mpr ⟨List.mem_cons_of_mem _ (List.mem_append_left _ (List.mem_append_right _ (List.mem_of_getElem? (l := wsX11_state_r2) (i := 10) rfl))), (List.forall_mem_cons.mpr ⟨List.mem_cons_of_mem _ (List.mem_append_left _ (List.mem_append_right _ (List.mem_of_getElem? (l := wsX11_state_r2) (i := 11) rfl))), (List.forall_mem_cons.mpr ⟨List.mem_cons_of_mem _ (List.mem_append_left _ (List.mem_append_right _ (List.mem_of_getElem? (l := wsX11_state_r2) (i := 12) rfl))), (List.forall_mem_cons.mpr ⟨List.mem_cons_of_mem _ (List.mem_append_left _ (List.mem_append_right _ (List.mem_of_getElem? (l := wsX11_state_r2) (i := 13) rfl))), (List.forall_mem_cons.mpr ⟨List.mem_cons_of_mem _ (List.mem_append_left _ (List.mem_append_right _ (List.mem_of_getElem? (l := wsX11_state_r2) (i := 14) rfl))), (fun _ h => nomatch h)⟩)⟩)⟩)⟩)⟩)⟩)⟩), (fun _ h => List.mem_cons_of_mem _ (List.mem_append_right _ (h)))⟩)⟩) (by decide +kernel)
set_option maxRecDepth 20000 in
theorem gX11_state_X11_stateOf : GoodIn wsX11_state (wsV RX11 89 RX11 yX11_stateOf wsX11_stateOf) := goodIn_app (goodIn_of _ (by decide +kernel)) ggX11_state_X11_stateOf
theorem kX11_state_0 : (.fieldLink RX11 37 "RunDeskModel" "thrown" "I" : Cond) ∈ wsX11_state := List.mem_of_getElem? (i := 1) (by decide +kernel)
theorem qX11_state_X11 : ∀ w ∈ wsX110, w ∈ wsX11_state := fun _ h => List.mem_cons_of_mem _ (List.mem_append_right _ (h))
set_option maxHeartbeats 4000000 in
set_option maxRecDepth 100000 in
theorem mX11_state (l : Launch) (D : va_G) (cB cI cZ : ClassId) (a_t : Nat) (a_t_now : Nat) (a_t_kept : Nat) (a_t_text : Nat) (a_t_passing : Nat) (a_t_order : Nat) (a_t_times : Nat) (t_thrown : Int32) (t_isKept : Int32) (t_length : Int32) (t_at : Int32) (t_fault : Int32) (t_open : Int32) (t_asked : Int32) (t_byGun : Int32) (t_prizeMost : Int32) (t_listed : Int32) (t_now : Nat → Int32) (sz : Nat) (x1 : Int32) (N : Nat) (r0 : Int32) (t_thrown' : Int32) (h : fX11_state N t_thrown t_now x1 = some (r0, t_thrown')) : Met l yX11_state wsX11_state ({ frames := 4, cells := 0, slots := 0, locals := 88 } : Room) (va_Pc [.ref a_t, .int x1] (zPre D (zT cB cI cZ) [(a_t, .inr (11, [.int t_thrown, .ref a_t_now, .ref a_t_kept, .int t_isKept, .ref a_t_text, .int t_length, .ref a_t_passing, .int t_at, .int t_fault, .int t_open, .int t_asked, .int t_byGun, .int t_prizeMost, .ref a_t_order, .ref a_t_times, .int t_listed])), (a_t_now, .inl (cI, 1562, .inl t_now))] sz)) (zQi r0 D (zT cB cI cZ) [(a_t, .inr (11, [.int t_thrown', .ref a_t_now, .ref a_t_kept, .int t_isKept, .ref a_t_text, .int t_length, .ref a_t_passing, .int t_at, .int t_fault, .int t_open, .int t_asked, .int t_byGun, .int t_prizeMost, .ref a_t_order, .ref a_t_times, .int t_listed])), (a_t_now, .inl (cI, 1562, .inl t_now))] (va_A [(a_t, .inr (11, [.int t_thrown, .ref a_t_now, .ref a_t_kept, .int t_isKept, .ref a_t_text, .int t_length, .ref a_t_passing, .int t_at, .int t_fault, .int t_open, .int t_asked, .int t_byGun, .int t_prizeMost, .ref a_t_order, .ref a_t_times, .int t_listed])), (a_t_now, .inl (cI, 1562, .inl t_now))] sz)) 0 0 (va_A [(a_t, .inr (11, [.int t_thrown, .ref a_t_now, .ref a_t_kept, .int t_isKept, .ref a_t_text, .int t_length, .ref a_t_passing, .int t_at, .int t_fault, .int t_open, .int t_asked, .int t_byGun, .int t_prizeMost, .ref a_t_order, .ref a_t_times, .int t_listed])), (a_t_now, .inl (cI, 1562, .inl t_now))] sz) := by
  refine Met.ofW (cc := cX11_state) (maxL := 4) (ret := (some .int)) (by decide) rfl ?_
  intro p e s m args below meth c s₁ B hml hv
  obtain ⟨rfl, hsz, hP, hK, hN, hZ, hD0⟩ := hv
  have hx := B.exec
  have hb := B.bytes
  have hr := B.returns
  have hts := atoms_spec (ws := wsX11_state) B.pre
  have hown : s.vm.findClass RX11 = some m.cls := findClass_of_methodNamed B.named
  have hlocks := B.notSynchronized
  subst hsz
  have hD := hD0.self (sz := s.heap.size)
  generalize hAe : va_A [(a_t, .inr (11, [.int t_thrown, .ref a_t_now, .ref a_t_kept, .int t_isKept, .ref a_t_text, .int t_length, .ref a_t_passing, .int t_at, .int t_fault, .int t_open, .int t_asked, .int t_byGun, .int t_prizeMost, .ref a_t_order, .ref a_t_times, .int t_listed])), (a_t_now, .inl (cI, 1562, .inl t_now))] s.heap.size = A at hD hZ ⊢
  have hA : ∀ q : Nat, s.heap.size ≤ q → A q := fun q h => by rw [← hAe]; exact Or.inr h
  have hS : va_S A s.heap s.heap [] := va_S.rf
  have hl := lv_entry ([.ref a_t, .int x1]) (n := 4) (Nat.le_of_ble_eq_true rfl)
  rw [lg_entry_eq]
  generalize (lg_sl ([.ref a_t, .int x1]) ++ List.replicate (4 - (lg_sl ([.ref a_t, .int x1])).length) Slot.unset).toArray = ls at hl ⊢
  have hl : lv_has ls 4 [(0, .ref a_t), (1, .int x1)] := hl
  unfold fX11_state at h
  refine lv_aload_n hx hb dX11_state_0 rfl (lv_at hl 0 rfl) ?_
  refine lv_iconst (v := (nI 0)) hx hb dX11_state_1 rfl ?_
  refine va_put (D := D) (ci := 11) (ty := .int) (C := RX11) (T := TX11) (N := 16) hx hb hts qX11_state_X11 tyX11 tyX11_ok nmX11 hown hK hP hD hS 0 rfl rfl 0 (by decide) (hts _ kX11_state_0) (fun _ h9 => h9) rfl (by decide +kernel) rfl (by first | rfl | exact zz_fit) (Nat.le_of_ble_eq_true rfl) dX11_state_2 (fun H locs hP hD hS => ?_)
  have hP : va_P D vwCl [(a_t, .inr (11, [.int (nI 0), .ref a_t_now, .ref a_t_kept, .int t_isKept, .ref a_t_text, .int t_length, .ref a_t_passing, .int t_at, .int t_fault, .int t_open, .int t_asked, .int t_byGun, .int t_prizeMost, .ref a_t_order, .ref a_t_times, .int t_listed])), (a_t_now, .inl (cI, 1562, .inl t_now))] H := hP
  have hD : va_D A [(a_t, .inr (11, [.int (nI 0), .ref a_t_now, .ref a_t_kept, .int t_isKept, .ref a_t_text, .int t_length, .ref a_t_passing, .int t_at, .int t_fault, .int t_open, .int t_asked, .int t_byGun, .int t_prizeMost, .ref a_t_order, .ref a_t_times, .int t_listed])), (a_t_now, .inl (cI, 1562, .inl t_now))] := hD
  refine lv_iconst (v := (nI 0)) hx hb dX11_state_5 rfl ?_
  refine lv_istore_n (lv' := [(2, .int (nI 0)), (0, .ref a_t), (1, .int x1)]) hx hb dX11_state_6 rfl hl (by decide) rfl (fun ls hl => ?_)
  refine lv_iconst (v := (nI 0)) hx hb dX11_state_7 rfl ?_
  refine lv_istore_n (lv' := [(3, .int (nI 0)), (2, .int (nI 0)), (0, .ref a_t), (1, .int x1)]) hx hb dX11_state_8 rfl hl (by decide) rfl (fun ls hl => ?_)
  have X9_40 : ∀ (v2_9 : Int32) (v3_9 : Int32) (H : Heap) (locs : List Loc) (ls : Array Slot), some (v2_9, (nI 0)) = some (r0, t_thrown') → va_P D vwCl [(a_t, .inr (11, [.int (nI 0), .ref a_t_now, .ref a_t_kept, .int t_isKept, .ref a_t_text, .int t_length, .ref a_t_passing, .int t_at, .int t_fault, .int t_open, .int t_asked, .int t_byGun, .int t_prizeMost, .ref a_t_order, .ref a_t_times, .int t_listed])), (a_t_now, .inl (cI, 1562, .inl t_now))] H → va_D A [(a_t, .inr (11, [.int (nI 0), .ref a_t_now, .ref a_t_kept, .int t_isKept, .ref a_t_text, .int t_length, .ref a_t_passing, .int t_at, .int t_fault, .int t_open, .int t_asked, .int t_byGun, .int t_prizeMost, .ref a_t_order, .ref a_t_times, .int t_listed])), (a_t_now, .inl (cI, 1562, .inl t_now))] → va_S A s.heap H locs → lv_has ls 4 [(3, .int v3_9), (2, .int v2_9), (0, .ref a_t), (1, .int x1)] → W p l e (headSpec wsX11_state ({ frames := 4, cells := 0, slots := 0, locals := 88 } : Room)).room s m #[Value.ref a_t, Value.int x1] below meth c H locs 0 0 (MQ below (zQi r0 D (zT cB cI cZ) [(a_t, .inr (11, [.int t_thrown', .ref a_t_now, .ref a_t_kept, .int t_isKept, .ref a_t_text, .int t_length, .ref a_t_passing, .int t_at, .int t_fault, .int t_open, .int t_asked, .int t_byGun, .int t_prizeMost, .ref a_t_order, .ref a_t_times, .int t_listed])), (a_t_now, .inl (cI, 1562, .inl t_now))] A) #[Value.ref a_t, Value.int x1] s 0 0 A) (F0 m 40 ls []) := by
    intro v2_9 v3_9 H locs ls h hP hD hS hl
    refine lv_iload_n hx hb dX11_state_40 rfl (lv_at hl 1 rfl) ?_
    obtain ⟨j0_, g_⟩ := Prod.mk.inj (Option.some.inj h)
    have j1_ := g_
    subst j0_
    subst j1_
    exact W.iret (v := v2_9) hx hb hr (fun t ht hW => ⟨⟨_, (), rfl, rfl, zPost.of hP hD hK ht hW [0, 1] rfl rfl rfl⟩, hS.F ht⟩) hS.2.2 dX11_state_41
  have L9 : ∀ (n : Nat) (v2_9 : Int32) (v3_9 : Int32) (H : Heap) (locs : List Loc) (ls : Array Slot), fX11_state_L9 N t_now x1 (fun (v2_9 : Int32) (v3_9 : Int32) => some (v2_9, (nI 0))) n v2_9 v3_9 = some (r0, t_thrown') → va_P D vwCl [(a_t, .inr (11, [.int (nI 0), .ref a_t_now, .ref a_t_kept, .int t_isKept, .ref a_t_text, .int t_length, .ref a_t_passing, .int t_at, .int t_fault, .int t_open, .int t_asked, .int t_byGun, .int t_prizeMost, .ref a_t_order, .ref a_t_times, .int t_listed])), (a_t_now, .inl (cI, 1562, .inl t_now))] H → va_D A [(a_t, .inr (11, [.int (nI 0), .ref a_t_now, .ref a_t_kept, .int t_isKept, .ref a_t_text, .int t_length, .ref a_t_passing, .int t_at, .int t_fault, .int t_open, .int t_asked, .int t_byGun, .int t_prizeMost, .ref a_t_order, .ref a_t_times, .int t_listed])), (a_t_now, .inl (cI, 1562, .inl t_now))] → va_S A s.heap H locs → lv_has ls 4 [(3, .int v3_9), (2, .int v2_9), (0, .ref a_t), (1, .int x1)] → W p l e (headSpec wsX11_state ({ frames := 4, cells := 0, slots := 0, locals := 88 } : Room)).room s m #[Value.ref a_t, Value.int x1] below meth c H locs 0 0 (MQ below (zQi r0 D (zT cB cI cZ) [(a_t, .inr (11, [.int t_thrown', .ref a_t_now, .ref a_t_kept, .int t_isKept, .ref a_t_text, .int t_length, .ref a_t_passing, .int t_at, .int t_fault, .int t_open, .int t_asked, .int t_byGun, .int t_prizeMost, .ref a_t_order, .ref a_t_times, .int t_listed])), (a_t_now, .inl (cI, 1562, .inl t_now))] A) #[Value.ref a_t, Value.int x1] s 0 0 A) (F0 m 9 ls []) := by
    intro n
    induction n with
    | zero => intro _ _ H locs ls h hP hD hS hl; cases h
    | succ n9 ih9 =>
      intro v2_9 v3_9 H locs ls h hP hD hS hl
      rw [fX11_state_L9.eq_2] at h
      refine lv_iload_n hx hb dX11_state_9 rfl (lv_at hl 0 rfl) ?_
      refine lv_aload_n hx hb dX11_state_10 rfl (lv_at hl 2 rfl) ?_
      obtain ⟨r1, e2, h⟩ := zz_b h
      refine zVi (As := []) (rest := [.int v3_9]) (C := RX11) (wr := []) [0, 1] [] 0 ⟨hx, hb, hml, hown, hts⟩ (mX11_runners l D cB cI cZ a_t a_t_now a_t_kept a_t_text a_t_passing a_t_order a_t_times (nI 0) t_isKept t_length t_at t_fault t_open t_asked t_byGun t_prizeMost t_listed t_now H.size r1 e2) (cwV 0 hts gX11_state_X11_runners rfl rfl rfl (by decide +kernel) ⟨Nat.le_of_ble_eq_true rfl, Nat.le_of_ble_eq_true rfl⟩) hK hN hZ hP hD hS hA rfl rfl rfl rfl rfl rfl rfl rfl hl.1 rfl (lv_room (Nat.le_of_ble_eq_true rfl)) dX11_state_11 ⟨Nat.le_of_ble_eq_true rfl, Nat.le_of_ble_eq_true rfl⟩ (fun H locs hP hD hS => ?_)
      have hP : va_P D vwCl [(a_t, .inr (11, [.int (nI 0), .ref a_t_now, .ref a_t_kept, .int t_isKept, .ref a_t_text, .int t_length, .ref a_t_passing, .int t_at, .int t_fault, .int t_open, .int t_asked, .int t_byGun, .int t_prizeMost, .ref a_t_order, .ref a_t_times, .int t_listed])), (a_t_now, .inl (cI, 1562, .inl t_now))] H := hP
      have hD : va_D A [(a_t, .inr (11, [.int (nI 0), .ref a_t_now, .ref a_t_kept, .int t_isKept, .ref a_t_text, .int t_length, .ref a_t_passing, .int t_at, .int t_fault, .int t_open, .int t_asked, .int t_byGun, .int t_prizeMost, .ref a_t_order, .ref a_t_times, .int t_listed])), (a_t_now, .inl (cI, 1562, .inl t_now))] := hD
      refine lv_icmp_ge (tgt := 40) hx hb dX11_state_14 (by decide) (fun c3 => ?_) (fun c3 => ?_)
      · have h := zz_t h c3
        exact X9_40 v2_9 v3_9 _ _ _ h (hP.sub [0, 1] rfl) (hD.sub [0, 1] rfl rfl) hS (lv_sub hl [0, 1, 2, 3] rfl)
      · have h := zz_f h c3
        refine lv_iload_n hx hb dX11_state_17 rfl (lv_at hl 1 rfl) ?_
        refine lv_aload_n hx hb dX11_state_18 rfl (lv_at hl 2 rfl) ?_
        refine lv_iload_n hx hb dX11_state_19 rfl (lv_at hl 0 rfl) ?_
        obtain ⟨r4, e5, h⟩ := zz_b h
        refine zVi (As := [.int v3_9]) (rest := [.int v2_9]) (C := RX11) (wr := []) [0, 1] [] 0 ⟨hx, hb, hml, hown, hts⟩ (mX11_stateOf l D cB cI cZ a_t a_t_now a_t_kept a_t_text a_t_passing a_t_order a_t_times (nI 0) t_isKept t_length t_at t_fault t_open t_asked t_byGun t_prizeMost t_listed t_now H.size v3_9 N r4 e5) (cwV 1 hts gX11_state_X11_stateOf rfl rfl rfl (by decide +kernel) ⟨Nat.le_of_ble_eq_true rfl, Nat.le_of_ble_eq_true rfl⟩) hK hN hZ hP hD hS hA rfl rfl rfl rfl rfl rfl rfl rfl hl.1 rfl (lv_room (Nat.le_of_ble_eq_true rfl)) dX11_state_20 ⟨Nat.le_of_ble_eq_true rfl, Nat.le_of_ble_eq_true rfl⟩ (fun H locs hP hD hS => ?_)
        have hP : va_P D vwCl [(a_t, .inr (11, [.int (nI 0), .ref a_t_now, .ref a_t_kept, .int t_isKept, .ref a_t_text, .int t_length, .ref a_t_passing, .int t_at, .int t_fault, .int t_open, .int t_asked, .int t_byGun, .int t_prizeMost, .ref a_t_order, .ref a_t_times, .int t_listed])), (a_t_now, .inl (cI, 1562, .inl t_now))] H := hP
        have hD : va_D A [(a_t, .inr (11, [.int (nI 0), .ref a_t_now, .ref a_t_kept, .int t_isKept, .ref a_t_text, .int t_length, .ref a_t_passing, .int t_at, .int t_fault, .int t_open, .int t_asked, .int t_byGun, .int t_prizeMost, .ref a_t_order, .ref a_t_times, .int t_listed])), (a_t_now, .inl (cI, 1562, .inl t_now))] := hD
        refine lv_iload_n hx hb dX11_state_23 rfl (lv_at hl 3 rfl) ?_
        refine lv_icmp_ne (tgt := 31) hx hb dX11_state_24 (by decide) (fun c6 => ?_) (fun c6 => ?_)
        · have h := zz_f h c6
          refine lv_iconst (v := (nI 0)) hx hb dX11_state_31 rfl ?_
          refine lv_iadd hx hb dX11_state_32 ?_
          refine lv_istore_n (lv' := [(2, .int (v2_9 + (nI 0))), (3, .int v3_9), (0, .ref a_t), (1, .int x1)]) hx hb dX11_state_33 rfl hl (by decide) rfl (fun ls hl => ?_)
          refine lv_iinc (v := (v3_9 + (nI 1))) (lv' := [(3, .int (v3_9 + (nI 1))), (2, .int (v2_9 + (nI 0))), (0, .ref a_t), (1, .int x1)]) hx hb dX11_state_34 hl (k := 1) rfl rfl (by decide) rfl (fun ls hl => ?_)
          refine lv_goto (tgt := 9) hx hb dX11_state_37 (by decide) ?_
          exact ih9 (v2_9 + (nI 0)) (v3_9 + (nI 1)) _ _ _ h (hP.sub [0, 1] rfl) (hD.sub [0, 1] rfl rfl) hS (lv_sub hl [0, 1, 2, 3] rfl)
        · have h := zz_t h c6
          refine lv_iconst (v := (nI 1)) hx hb dX11_state_27 rfl ?_
          refine lv_goto (tgt := 32) hx hb dX11_state_28 (by decide) ?_
          refine lv_iadd hx hb dX11_state_32 ?_
          refine lv_istore_n (lv' := [(2, .int (v2_9 + (nI 1))), (3, .int v3_9), (0, .ref a_t), (1, .int x1)]) hx hb dX11_state_33 rfl hl (by decide) rfl (fun ls hl => ?_)
          refine lv_iinc (v := (v3_9 + (nI 1))) (lv' := [(3, .int (v3_9 + (nI 1))), (2, .int (v2_9 + (nI 1))), (0, .ref a_t), (1, .int x1)]) hx hb dX11_state_34 hl (k := 1) rfl rfl (by decide) rfl (fun ls hl => ?_)
          refine lv_goto (tgt := 9) hx hb dX11_state_37 (by decide) ?_
          exact ih9 (v2_9 + (nI 1)) (v3_9 + (nI 1)) _ _ _ h (hP.sub [0, 1] rfl) (hD.sub [0, 1] rfl rfl) hS (lv_sub hl [0, 1, 2, 3] rfl)
  exact L9 N (nI 0) (nI 0) _ _ _ h hP hD hS hl
/-! RunDeskModel.count -/
theorem dX11_count_0 : decode cX11_count 0 = .ok (.aload_n 0, 1) := by decide +kernel
theorem dX11_count_1 : decode cX11_count 1 = .ok (.iconst 0, 1) := by decide +kernel
theorem dX11_count_2 : decode cX11_count 2 = .ok (.putfield 37, 3) := by decide +kernel
theorem dX11_count_5 : decode cX11_count 5 = .ok (.iload_n 1, 1) := by decide +kernel
theorem dX11_count_6 : decode cX11_count 6 = .ok (.tableswitch 133 0 6 #[42, 47, 52, 59, 64, 71, 128], 42) := by decide +kernel
theorem dX11_count_48 : decode cX11_count 48 = .ok (.aload_n 0, 1) := by decide +kernel
theorem dX11_count_49 : decode cX11_count 49 = .ok (.invokevirtual 41, 3) := by decide +kernel
theorem dX11_count_52 : decode cX11_count 52 = .ok (.ireturn, 1) := by decide +kernel
theorem dX11_count_53 : decode cX11_count 53 = .ok (.aload_n 0, 1) := by decide +kernel
theorem dX11_count_54 : decode cX11_count 54 = .ok (.invokevirtual 45, 3) := by decide +kernel
theorem dX11_count_57 : decode cX11_count 57 = .ok (.ireturn, 1) := by decide +kernel
theorem dX11_count_58 : decode cX11_count 58 = .ok (.aload_n 0, 1) := by decide +kernel
theorem dX11_count_59 : decode cX11_count 59 = .ok (.iconst (-1), 1) := by decide +kernel
theorem dX11_count_60 : decode cX11_count 60 = .ok (.iconst 0, 1) := by decide +kernel
theorem dX11_count_61 : decode cX11_count 61 = .ok (.invokevirtual 136, 3) := by decide +kernel
theorem dX11_count_64 : decode cX11_count 64 = .ok (.ireturn, 1) := by decide +kernel
theorem dX11_count_65 : decode cX11_count 65 = .ok (.aload_n 0, 1) := by decide +kernel
theorem dX11_count_66 : decode cX11_count 66 = .ok (.getfield 145, 3) := by decide +kernel
theorem dX11_count_69 : decode cX11_count 69 = .ok (.ireturn, 1) := by decide +kernel
theorem dX11_count_70 : decode cX11_count 70 = .ok (.aload_n 0, 1) := by decide +kernel
theorem dX11_count_71 : decode cX11_count 71 = .ok (.getfield 9, 3) := by decide +kernel
theorem dX11_count_74 : decode cX11_count 74 = .ok (.iconst 2, 1) := by decide +kernel
theorem dX11_count_75 : decode cX11_count 75 = .ok (.iaload, 1) := by decide +kernel
theorem dX11_count_76 : decode cX11_count 76 = .ok (.ireturn, 1) := by decide +kernel
theorem dX11_count_77 : decode cX11_count 77 = .ok (.iconst 0, 1) := by decide +kernel
theorem dX11_count_78 : decode cX11_count 78 = .ok (.istore_n 2, 1) := by decide +kernel
theorem dX11_count_79 : decode cX11_count 79 = .ok (.iconst 0, 1) := by decide +kernel
theorem dX11_count_80 : decode cX11_count 80 = .ok (.istore_n 3, 1) := by decide +kernel
theorem dX11_count_81 : decode cX11_count 81 = .ok (.iload_n 3, 1) := by decide +kernel
theorem dX11_count_82 : decode cX11_count 82 = .ok (.aload_n 0, 1) := by decide +kernel
theorem dX11_count_83 : decode cX11_count 83 = .ok (.invokevirtual 45, 3) := by decide +kernel
theorem dX11_count_86 : decode cX11_count 86 = .ok (.if_icmp .ge 46, 3) := by decide +kernel
theorem dX11_count_89 : decode cX11_count 89 = .ok (.iconst 0, 1) := by decide +kernel
theorem dX11_count_90 : decode cX11_count 90 = .ok (.istore 4, 2) := by decide +kernel
theorem dX11_count_92 : decode cX11_count 92 = .ok (.iload 4, 2) := by decide +kernel
theorem dX11_count_94 : decode cX11_count 94 = .ok (.aload_n 0, 1) := by decide +kernel
theorem dX11_count_95 : decode cX11_count 95 = .ok (.invokevirtual 41, 3) := by decide +kernel
theorem dX11_count_98 : decode cX11_count 98 = .ok (.if_icmp .ge 28, 3) := by decide +kernel
theorem dX11_count_101 : decode cX11_count 101 = .ok (.iload_n 2, 1) := by decide +kernel
theorem dX11_count_102 : decode cX11_count 102 = .ok (.aload_n 0, 1) := by decide +kernel
theorem dX11_count_103 : decode cX11_count 103 = .ok (.iload_n 3, 1) := by decide +kernel
theorem dX11_count_104 : decode cX11_count 104 = .ok (.iload 4, 2) := by decide +kernel
theorem dX11_count_106 : decode cX11_count 106 = .ok (.invokevirtual 76, 3) := by decide +kernel
theorem dX11_count_109 : decode cX11_count 109 = .ok (.iconst (-1), 1) := by decide +kernel
theorem dX11_count_110 : decode cX11_count 110 = .ok (.if_icmp .eq 7, 3) := by decide +kernel
theorem dX11_count_113 : decode cX11_count 113 = .ok (.iconst 1, 1) := by decide +kernel
theorem dX11_count_114 : decode cX11_count 114 = .ok (.goto 4, 3) := by decide +kernel
theorem dX11_count_117 : decode cX11_count 117 = .ok (.iconst 0, 1) := by decide +kernel
theorem dX11_count_118 : decode cX11_count 118 = .ok (.iadd, 1) := by decide +kernel
theorem dX11_count_119 : decode cX11_count 119 = .ok (.istore_n 2, 1) := by decide +kernel
theorem dX11_count_120 : decode cX11_count 120 = .ok (.iinc 4 1, 3) := by decide +kernel
theorem dX11_count_123 : decode cX11_count 123 = .ok (.goto (-31), 3) := by decide +kernel
theorem dX11_count_126 : decode cX11_count 126 = .ok (.iinc 3 1, 3) := by decide +kernel
theorem dX11_count_129 : decode cX11_count 129 = .ok (.goto (-48), 3) := by decide +kernel
theorem dX11_count_132 : decode cX11_count 132 = .ok (.iload_n 2, 1) := by decide +kernel
theorem dX11_count_133 : decode cX11_count 133 = .ok (.ireturn, 1) := by decide +kernel
theorem dX11_count_134 : decode cX11_count 134 = .ok (.aload_n 0, 1) := by decide +kernel
theorem dX11_count_135 : decode cX11_count 135 = .ok (.invokevirtual 102, 3) := by decide +kernel
theorem dX11_count_138 : decode cX11_count 138 = .ok (.ireturn, 1) := by decide +kernel
theorem dX11_count_139 : decode cX11_count 139 = .ok (.iconst (-1), 1) := by decide +kernel
theorem dX11_count_140 : decode cX11_count 140 = .ok (.ireturn, 1) := by decide +kernel
set_option maxRecDepth 20000 in
theorem ggX11_count_X11_mats : GoodIn wsX11_count wsX11_mats := goodIn_sub (List.forall_mem_cons.mpr ⟨List.mem_cons_of_mem _ (List.mem_append_left _ (List.mem_append_left _ (List.mem_of_getElem? (l := wsX11_count_r1) (i := 7) rfl))), (List.forall_mem_append.mpr ⟨(List.forall_mem_cons.mpr ⟨List.mem_cons_of_mem _ (List.mem_append_left _ (List.mem_append_left _ (List.mem_of_getElem? (l := wsX11_count_r1) (i := 2) rfl))), (fun _ h => nomatch h)⟩), (fun _ h => List.mem_cons_of_mem _ (List.mem_append_right _ (h)))⟩)⟩) (by decide +kernel)
set_option maxRecDepth 20000 in
theorem gX11_count_X11_mats : GoodIn wsX11_count (wsV RX11 41 RX11 yX11_mats wsX11_mats) := goodIn_app (goodIn_of _ (by decide +kernel)) ggX11_count_X11_mats
set_option maxRecDepth 20000 in
theorem ggX11_count_X11_runners : GoodIn wsX11_count wsX11_runners := goodIn_sub (List.forall_mem_cons.mpr ⟨List.mem_cons_of_mem _ (List.mem_append_left _ (List.mem_append_left _ (List.mem_of_getElem? (l := wsX11_count_r1) (i := 11) rfl))), (List.forall_mem_append.mpr ⟨(List.forall_mem_cons.mpr ⟨List.mem_cons_of_mem _ (List.mem_append_left _ (List.mem_append_left _ (List.mem_of_getElem? (l := wsX11_count_r1) (i := 2) rfl))), (fun _ h => nomatch h)⟩), (fun _ h => List.mem_cons_of_mem _ (List.mem_append_right _ (h)))⟩)⟩) (by decide +kernel)
set_option maxRecDepth 20000 in
theorem gX11_count_X11_runners : GoodIn wsX11_count (wsV RX11 45 RX11 yX11_runners wsX11_runners) := goodIn_app (goodIn_of _ (by decide +kernel)) ggX11_count_X11_runners
set_option maxRecDepth 20000 in
theorem ggX11_count_X11_doubts : GoodIn wsX11_count wsX11_doubts := goodIn_sub (List.forall_mem_cons.mpr ⟨List.mem_cons_of_mem _ (List.mem_append_left _ (List.mem_append_left _ (List.mem_of_getElem? (l := wsX11_count_r1) (i := 15) rfl))), (List.forall_mem_append.mpr ⟨(List.forall_mem_append.mpr ⟨(List.forall_mem_cons.mpr ⟨List.mem_cons_of_mem _ (List.mem_append_left _ (List.mem_append_left _ (List.mem_of_getElem? (l := wsX11_count_r1) (i := 8) rfl))), (List.forall_mem_cons.mpr ⟨List.mem_cons_of_mem _ (List.mem_append_left _ (List.mem_append_left _ (List.mem_of_getElem? (l := wsX11_count_r1) (i := 9) rfl))), (List.forall_mem_cons.mpr ⟨List.mem_cons_of_mem _ (List.mem_append_left _ (List.mem_append_left _ (List.mem_of_getElem? (l := wsX11_count_r1) (i := 10) rfl))), (List.forall_mem_cons.mpr ⟨List.mem_cons_of_mem _ (List.mem_append_left _ (List.mem_append_left _ (List.mem_of_getElem? (l := wsX11_count_r1) (i := 6) rfl))), (List.forall_mem_cons.mpr ⟨List.mem_cons_of_mem _ (List.mem_append_left _ (List.mem_append_left _ (List.mem_of_getElem? (l := wsX11_count_r1) (i := 11) rfl))), (List.forall_mem_cons.mpr ⟨List.mem_cons_of_mem _ (List.mem_append_left _ (List.mem_append_left _ (List.mem_of_getElem? (l := wsX11_count_r1) (i := 2) rfl))), (List.forall_mem_cons.mpr ⟨List.mem_cons_of_mem _ (List.mem_append_left _ (List.mem_append_left _ (List.mem_of_getElem? (l := wsX11_count_r1) (i := 3) rfl))), (List.forall_mem_cons.mpr ⟨List.mem_cons_of_mem _ (List.mem_append_left _ (List.mem_append_left _ (List.mem_of_getElem? (l := wsX11_count_r1) (i := 4) rfl))), (List.forall_mem_cons.mpr ⟨List.mem_cons_of_mem _ (List.mem_append_left _ (List.mem_append_left _ (List.mem_of_getElem? (l := wsX11_count_r1) (i := 5) rfl))), (List.forall_mem_cons.mpr ⟨List.mem_cons_of_mem _ (List.mem_append_left _ (List.mem_append_left _ (List.mem_of_getElem? (l := wsX11_count_r1) (i := 7) rfl))), (List.forall_mem_cons.mpr ⟨List.mem_cons_of_mem _ (List.mem_append_left _ (List.mem_append_left _ (List.mem_of_getElem? (l := wsX11_count_r1) (i := 16) rfl))), (List.forall_mem_cons.mpr ⟨List.mem_cons_of_mem _ (List.mem_append_left _ (List.mem_append_left _ (List.mem_of_getElem? (l := wsX11_count_r1) (i := 17) rfl))), (List.forall_mem_cons.mpr ⟨List.mem_cons_of_mem _ (List.mem_append_left _ (List.mem_append_left _ (List.mem_of_getElem? (l := wsX11_count_r1) (i := 18) rfl))), (List.forall_mem_cons.mpr ⟨List.mem_cons_of_mem _ (List.mem_append_left _ (List.mem_append_left _ (List.mem_of_getElem? (l := wsX11_count_r1) (i := 19) rfl))), (List.forall_mem_cons.mpr ⟨List.mem_cons_of_mem _ (List.mem_append_left _ (List.mem_append_left _ (List.mem_of_getElem? (l := wsX11_count_r1) (i := 20) rfl))), (List.forall_mem_cons.mpr ⟨List.mem_cons_of_mem _ (List.mem_append_left _ (List.mem_append_left _ (List.mem_of_getElem? (l := wsX11_count_r1) (i := 21) rfl))), (List.forall_mem_cons.mpr ⟨List.mem_cons_of_mem _ (List.mem_append_left _ (List.mem_append_left _ (List.mem_of_getElem? (l := wsX11_count_r1) (i := 22) rfl))), (List.forall_mem_cons.mpr ⟨List.mem_cons_of_mem _ (List.mem_append_left _ (List.mem_append_left _ (List.mem_of_getElem? (l := wsX11_count_r1) (i := 23) rfl))), (List.forall_mem_cons.mpr ⟨List.mem_cons_of_mem _ (List.mem_append_left _ (List.mem_append_right _ (List.mem_append_left _ (List.mem_of_getElem? (l := wsX11_count_r2) (i := 0) rfl)))), (List.forall_mem_cons.mpr ⟨List.mem_cons_of_mem _ (List.mem_append_left _ (List.mem_append_right _ (List.mem_append_left _ (List.mem_of_getElem? (l := wsX11_count_r2) (i := 1) rfl)))), (List.forall_mem_cons.mpr ⟨List.mem_cons_of_mem _ (List.mem_append_left _ (List.mem_append_right _ (List.mem_append_left _ (List.mem_of_getElem? (l := wsX11_count_r2) (i := 2) rfl)))), (List.forall_mem_cons.mpr ⟨List.mem_cons_of_mem _ (List.mem_append_left _ (List.mem_append_right _ (List.mem_append_left _ (List.mem_of_getElem? (l := wsX11_count_r2) (i := 3) rfl)))), (List.forall_mem_cons.mpr ⟨List.mem_cons_of_mem _ (List.mem_append_left _ (List.mem_append_right _ (List.mem_append_left _ (List.mem_of_getElem? (l := wsX11_count_r2) (i := 4) rfl)))), (List.forall_mem_cons.mpr ⟨List.mem_cons_of_mem _ (List.mem_append_left _ (List.mem_append_right _ (List.mem_append_left _ (List.mem_of_getElem? (l := wsX11_count_r2) (i := 5) rfl)))), (fun _ h => nomatch h)⟩)⟩)⟩)⟩)⟩)⟩)⟩)⟩)⟩)⟩)⟩)⟩)⟩)⟩)⟩)⟩)⟩)⟩)⟩)⟩)⟩)⟩)⟩)⟩), (List.forall_mem_append.mpr ⟨(List.forall_mem_cons.mpr ⟨List.mem_cons_of_mem _ (List.mem_append_left _ (List.mem_append_right _ (List.mem_append_left _ (List.mem_of_getElem? (l := wsX11_count_r2) (i := 6) rfl)))), (List.forall_mem_cons.mpr ⟨List.mem_cons_of_mem _ (List.mem_append_left _ (List.mem_append_right _ (List.mem_append_left _ (List.mem_of_getElem? (l := wsX11_count_r2) (i := 7) rfl)))), (List.forall_mem_cons.mpr ⟨List.mem_cons_of_mem _ (List.mem_append_left _ (List.mem_append_right _ (List.mem_append_left _ (List.mem_of_getElem? (l := wsX11_count_r2) (i := 8) rfl)))), (List.forall_mem_cons.mpr ⟨List.mem_cons_of_mem _ (List.mem_append_left _ (List.mem_append_right _ (List.mem_append_left _ (List.mem_of_getElem? (l := wsX11_count_r2) (i := 9) rfl)))), (List.forall_mem_cons.mpr ⟨List.mem_cons_of_mem _ (List.mem_append_left _ (List.mem_append_right _ (List.mem_append_left _ (List.mem_of_getElem? (l := wsX11_count_r2) (i := 10) rfl)))), (List.forall_mem_cons.mpr ⟨List.mem_cons_of_mem _ (List.mem_append_left _ (List.mem_append_right _ (List.mem_append_left _ (List.mem_of_getElem? (l := wsX11_count_r2) (i := 11) rfl)))), (List.forall_mem_cons.mpr ⟨List.mem_cons_of_mem _ (List.mem_append_left _ (List.mem_append_right _ (List.mem_append_left _ (List.mem_of_getElem? (l := wsX11_count_r2) (i := 12) rfl)))), (List.forall_mem_cons.mpr ⟨List.mem_cons_of_mem _ (List.mem_append_left _ (List.mem_append_right _ (List.mem_append_left _ (List.mem_of_getElem? (l := wsX11_count_r2) (i := 13) rfl)))), (List.forall_mem_cons.mpr ⟨List.mem_cons_of_mem _ (List.mem_append_left _ (List.mem_append_right _ (List.mem_append_left _ (List.mem_of_getElem? (l := wsX11_count_r2) (i := 14) rfl)))), (List.forall_mem_cons.mpr ⟨List.mem_cons_of_mem _ (List.mem_append_left _ (List.mem_append_right _ (List.mem_append_left _ (List.mem_of_getElem? (l := wsX11_count_r2) (i := 15) rfl)))), (List.forall_mem_cons.mpr ⟨List.mem_cons_of_mem _ (List.mem_append_left _ (List.mem_append_right _ (List.mem_append_left _ (List.mem_of_getElem? (l := wsX11_count_r2) (i := 16) rfl)))), (List.forall_mem_cons.mpr ⟨List.mem_cons_of_mem _ (List.mem_append_left _ (List.mem_append_right _ (List.mem_append_left _ (List.mem_of_getElem? (l := wsX11_count_r2) (i := 17) rfl)))), (List.forall_mem_cons.mpr ⟨List.mem_cons_of_mem _ (List.mem_append_left _ (List.mem_append_right _ (List.mem_append_left _ (List.mem_of_getElem? (l := wsX11_count_r2) (i := 18) rfl)))), (List.forall_mem_cons.mpr ⟨List.mem_cons_of_mem _ (List.mem_append_left _ (List.mem_append_right _ (List.mem_append_left _ (List.mem_of_getElem? (l := wsX11_count_r2) (i := 19) rfl)))), (List.forall_mem_cons.mpr ⟨List.mem_cons_of_mem _ (List.mem_append_left _ (List.mem_append_right _ (List.mem_append_left _ (List.mem_of_getElem? (l := wsX11_count_r2) (i := 20) rfl)))), (List.forall_mem_cons.mpr ⟨List.mem_cons_of_mem _ (List.mem_append_left _ (List.mem_append_right _ (List.mem_append_left _ (List.mem_of_getElem? (l := wsX11_count_r2) (i := 21) rfl)))), (List.forall_mem_cons.mpr ⟨List.mem_cons_of_mem _ (List.mem_append_left _ (List.mem_append_right _ (List.mem_append_left _ (List.mem_of_getElem? (l := wsX11_count_r2) (i := 22) rfl)))), (List.forall_mem_cons.mpr ⟨List.mem_cons_of_mem _ (List.mem_append_left _ (List.mem_append_right _ (List.mem_append_left _ (List.mem_of_getElem? (l := wsX11_count_r2) (i := 23) rfl)))), (List.forall_mem_cons.mpr ⟨List.mem_cons_of_mem _ (List.mem_append_left _ (List.mem_append_right _ (List.mem_append_right _ (List.mem_of_getElem? (l := wsX11_count_r3) (i := 0) rfl)))), (List.forall_mem_cons.mpr ⟨List.mem_cons_of_mem _ (List.mem_append_left _ (List.mem_append_right _ (List.mem_append_right _ (List.mem_of_getElem? (l := wsX11_count_r3) (i := 1) rfl)))), (List.forall_mem_cons.mpr ⟨List.mem_cons_of_mem _ (List.mem_append_left _ (List.mem_append_right _ (List.mem_append_right _ (List.mem_of_getElem? (l := wsX11_count_r3) (i := 2) rfl)))), (List.forall_mem_cons.mpr ⟨List.mem_cons_of_mem _ (List.mem_append_left _ (List.mem_append_right _ (List.mem_append_right _ (List.mem_of_getElem? (l := wsX11_count_r3) (i := 3) rfl)))), (List.forall_mem_cons.mpr ⟨List.mem_cons_of_mem _ (List.mem_append_left _ (List.mem_append_right _ (List.mem_append_right _ (List.mem_of_getElem? (l := wsX11_count_r3) (i := 4) rfl)))), (List.forall_mem_cons.mpr ⟨List.mem_cons_of_mem _ (List.mem_append_left _ (List.mem_append_right _ (List.mem_append_right _ (List.mem_of_getElem? (l := wsX11_count_r3) (i := 5) rfl)))), (fun _ h => nomatch h)⟩)⟩)⟩)⟩)⟩)⟩)⟩)⟩)⟩)⟩)⟩)⟩)⟩)⟩)⟩)⟩)⟩)⟩)⟩)⟩)⟩)⟩)⟩)⟩), (List.forall_mem_cons.mpr ⟨List.mem_cons_of_mem _ (List.mem_append_left _ (List.mem_append_right _ (List.mem_append_right _ (List.mem_of_getElem? (l := wsX11_count_r3) (i := 6) rfl)))), (List.forall_mem_cons.mpr ⟨List.mem_cons_of_mem _ (List.mem_append_left _ (List.mem_append_right _ (List.mem_append_right _ (List.mem_of_getElem? (l := wsX11_count_r3) (i := 7) rfl)))), (List.forall_mem_cons.mpr ⟨List.mem_cons_of_mem _ (List.mem_append_left _ (List.mem_append_right _ (List.mem_append_right _ (List.mem_of_getElem? (l := wsX11_count_r3) (i := 8) rfl)))), (List.forall_mem_cons.mpr ⟨List.mem_cons_of_mem _ (List.mem_append_left _ (List.mem_append_right _ (List.mem_append_right _ (List.mem_of_getElem? (l := wsX11_count_r3) (i := 9) rfl)))), (List.forall_mem_cons.mpr ⟨List.mem_cons_of_mem _ (List.mem_append_left _ (List.mem_append_right _ (List.mem_append_right _ (List.mem_of_getElem? (l := wsX11_count_r3) (i := 10) rfl)))), (List.forall_mem_cons.mpr ⟨List.mem_cons_of_mem _ (List.mem_append_left _ (List.mem_append_right _ (List.mem_append_right _ (List.mem_of_getElem? (l := wsX11_count_r3) (i := 11) rfl)))), (List.forall_mem_cons.mpr ⟨List.mem_cons_of_mem _ (List.mem_append_left _ (List.mem_append_right _ (List.mem_append_right _ (List.mem_of_getElem? (l := wsX11_count_r3) (i := 12) rfl)))), (List.forall_mem_cons.mpr ⟨List.mem_cons_of_mem _ (List.mem_append_left _ (List.mem_append_right _ (List.mem_append_right _ (List.mem_of_getElem? (l := wsX11_count_r3) (i := 13) rfl)))), (List.forall_mem_cons.mpr ⟨List.mem_cons_of_mem _ (List.mem_append_left _ (List.mem_append_right _ (List.mem_append_right _ (List.mem_of_getElem? (l := wsX11_count_r3) (i := 14) rfl)))), (List.forall_mem_cons.mpr ⟨List.mem_cons_of_mem _ (List.mem_append_left _ (List.mem_append_right _ (List.mem_append_right _ (List.mem_of_getElem? (l := wsX11_count_r3) (i := 15) rfl)))), (List.forall_mem_cons.mpr ⟨List.mem_cons_of_mem _ (List.mem_append_left _ (List.mem_append_right _ (List.mem_append_right _ (List.mem_of_getElem? (l := wsX11_count_r3) (i := 16) rfl)))), (fun _ h => nomatch h)⟩)⟩)⟩)⟩)⟩)⟩)⟩)⟩)⟩)⟩)⟩)⟩)⟩), (fun _ h => List.mem_cons_of_mem _ (List.mem_append_right _ (h)))⟩)⟩) (by decide +kernel)
set_option maxRecDepth 20000 in
theorem gX11_count_X11_doubts : GoodIn wsX11_count (wsV RX11 136 RX11 yX11_doubts wsX11_doubts) := goodIn_app (goodIn_of _ (by decide +kernel)) ggX11_count_X11_doubts
set_option maxRecDepth 20000 in
theorem ggX11_count_X11_splitOf : GoodIn wsX11_count wsX11_splitOf := goodIn_sub (List.forall_mem_cons.mpr ⟨List.mem_cons_of_mem _ (List.mem_append_left _ (List.mem_append_right _ (List.mem_append_left _ (List.mem_of_getElem? (l := wsX11_count_r2) (i := 8) rfl)))), (List.forall_mem_append.mpr ⟨(List.forall_mem_cons.mpr ⟨List.mem_cons_of_mem _ (List.mem_append_left _ (List.mem_append_right _ (List.mem_append_left _ (List.mem_of_getElem? (l := wsX11_count_r2) (i := 9) rfl)))), (List.forall_mem_cons.mpr ⟨List.mem_cons_of_mem _ (List.mem_append_left _ (List.mem_append_right _ (List.mem_append_left _ (List.mem_of_getElem? (l := wsX11_count_r2) (i := 10) rfl)))), (List.forall_mem_cons.mpr ⟨List.mem_cons_of_mem _ (List.mem_append_left _ (List.mem_append_right _ (List.mem_append_left _ (List.mem_of_getElem? (l := wsX11_count_r2) (i := 11) rfl)))), (List.forall_mem_cons.mpr ⟨List.mem_cons_of_mem _ (List.mem_append_left _ (List.mem_append_left _ (List.mem_of_getElem? (l := wsX11_count_r1) (i := 6) rfl))), (List.forall_mem_cons.mpr ⟨List.mem_cons_of_mem _ (List.mem_append_left _ (List.mem_append_right _ (List.mem_append_left _ (List.mem_of_getElem? (l := wsX11_count_r2) (i := 12) rfl)))), (List.forall_mem_cons.mpr ⟨List.mem_cons_of_mem _ (List.mem_append_left _ (List.mem_append_left _ (List.mem_of_getElem? (l := wsX11_count_r1) (i := 2) rfl))), (fun _ h => nomatch h)⟩)⟩)⟩)⟩)⟩)⟩), (fun _ h => List.mem_cons_of_mem _ (List.mem_append_right _ (h)))⟩)⟩) (by decide +kernel)
set_option maxRecDepth 20000 in
theorem gX11_count_X11_splitOf : GoodIn wsX11_count (wsV RX11 76 RX11 yX11_splitOf wsX11_splitOf) := goodIn_app (goodIn_of _ (by decide +kernel)) ggX11_count_X11_splitOf
set_option maxRecDepth 20000 in
theorem ggX11_count_X11_wayLength : GoodIn wsX11_count wsX11_wayLength := goodIn_sub (List.forall_mem_cons.mpr ⟨List.mem_cons_of_mem _ (List.mem_append_left _ (List.mem_append_right _ (List.mem_append_right _ (List.mem_of_getElem? (l := wsX11_count_r3) (i := 20) rfl)))), (List.forall_mem_append.mpr ⟨(List.forall_mem_cons.mpr ⟨List.mem_cons_of_mem _ (List.mem_append_left _ (List.mem_append_left _ (List.mem_of_getElem? (l := wsX11_count_r1) (i := 3) rfl))), (List.forall_mem_cons.mpr ⟨List.mem_cons_of_mem _ (List.mem_append_left _ (List.mem_append_left _ (List.mem_of_getElem? (l := wsX11_count_r1) (i := 4) rfl))), (List.forall_mem_cons.mpr ⟨List.mem_cons_of_mem _ (List.mem_append_left _ (List.mem_append_left _ (List.mem_of_getElem? (l := wsX11_count_r1) (i := 5) rfl))), (List.forall_mem_cons.mpr ⟨List.mem_cons_of_mem _ (List.mem_append_left _ (List.mem_append_left _ (List.mem_of_getElem? (l := wsX11_count_r1) (i := 6) rfl))), (List.forall_mem_cons.mpr ⟨List.mem_cons_of_mem _ (List.mem_append_left _ (List.mem_append_left _ (List.mem_of_getElem? (l := wsX11_count_r1) (i := 7) rfl))), (List.forall_mem_cons.mpr ⟨List.mem_cons_of_mem _ (List.mem_append_left _ (List.mem_append_left _ (List.mem_of_getElem? (l := wsX11_count_r1) (i := 2) rfl))), (List.forall_mem_cons.mpr ⟨List.mem_cons_of_mem _ (List.mem_append_left _ (List.mem_append_right _ (List.mem_append_right _ (List.mem_of_getElem? (l := wsX11_count_r3) (i := 5) rfl)))), (List.forall_mem_cons.mpr ⟨List.mem_cons_of_mem _ (List.mem_append_left _ (List.mem_append_right _ (List.mem_append_right _ (List.mem_of_getElem? (l := wsX11_count_r3) (i := 6) rfl)))), (List.forall_mem_cons.mpr ⟨List.mem_cons_of_mem _ (List.mem_append_left _ (List.mem_append_right _ (List.mem_append_right _ (List.mem_of_getElem? (l := wsX11_count_r3) (i := 7) rfl)))), (List.forall_mem_cons.mpr ⟨List.mem_cons_of_mem _ (List.mem_append_left _ (List.mem_append_right _ (List.mem_append_right _ (List.mem_of_getElem? (l := wsX11_count_r3) (i := 8) rfl)))), (fun _ h => nomatch h)⟩)⟩)⟩)⟩)⟩)⟩)⟩)⟩)⟩)⟩), (fun _ h => List.mem_cons_of_mem _ (List.mem_append_right _ (h)))⟩)⟩) (by decide +kernel)
set_option maxRecDepth 20000 in
theorem gX11_count_X11_wayLength : GoodIn wsX11_count (wsV RX11 102 RX11 yX11_wayLength wsX11_wayLength) := goodIn_app (goodIn_of _ (by decide +kernel)) ggX11_count_X11_wayLength
theorem kX11_count_0 : (.fieldLink RX11 37 "RunDeskModel" "thrown" "I" : Cond) ∈ wsX11_count := List.mem_of_getElem? (i := 1) (by decide +kernel)
theorem qX11_count_X11 : ∀ w ∈ wsX110, w ∈ wsX11_count := fun _ h => List.mem_cons_of_mem _ (List.mem_append_right _ (h))
theorem kX11_count_2 : (.fieldLink RX11 145 "RunDeskModel" "length" "I" : Cond) ∈ wsX11_count := List.mem_of_getElem? (i := 2) (by decide +kernel)
theorem kX11_count_3 : (.fieldLink RX11 9 "RunDeskModel" "now" "[I" : Cond) ∈ wsX11_count := List.mem_of_getElem? (i := 3) (by decide +kernel)
set_option maxHeartbeats 4000000 in
set_option maxRecDepth 100000 in
theorem mX11_count (l : Launch) (D : va_G) (cB cI cZ : ClassId) (a_t : Nat) (a_t_now : Nat) (a_t_kept : Nat) (a_t_text : Nat) (a_t_passing : Nat) (a_t_order : Nat) (a_t_times : Nat) (t_thrown : Int32) (t_isKept : Int32) (t_length : Int32) (t_at : Int32) (t_fault : Int32) (t_open : Int32) (t_asked : Int32) (t_byGun : Int32) (t_prizeMost : Int32) (t_listed : Int32) (t_now : Nat → Int32) (sz : Nat) (x1 : Int32) (N : Nat) (r0 : Int32) (t_thrown' : Int32) (h : fX11_count N t_length t_thrown t_now x1 = some (r0, t_thrown')) : Met l yX11_count wsX11_count ({ frames := 7, cells := 0, slots := 0, locals := 169 } : Room) (va_Pc [.ref a_t, .int x1] (zPre D (zT cB cI cZ) [(a_t, .inr (11, [.int t_thrown, .ref a_t_now, .ref a_t_kept, .int t_isKept, .ref a_t_text, .int t_length, .ref a_t_passing, .int t_at, .int t_fault, .int t_open, .int t_asked, .int t_byGun, .int t_prizeMost, .ref a_t_order, .ref a_t_times, .int t_listed])), (a_t_now, .inl (cI, 1562, .inl t_now))] sz)) (zQi r0 D (zT cB cI cZ) [(a_t, .inr (11, [.int t_thrown', .ref a_t_now, .ref a_t_kept, .int t_isKept, .ref a_t_text, .int t_length, .ref a_t_passing, .int t_at, .int t_fault, .int t_open, .int t_asked, .int t_byGun, .int t_prizeMost, .ref a_t_order, .ref a_t_times, .int t_listed])), (a_t_now, .inl (cI, 1562, .inl t_now))] (va_A [(a_t, .inr (11, [.int t_thrown, .ref a_t_now, .ref a_t_kept, .int t_isKept, .ref a_t_text, .int t_length, .ref a_t_passing, .int t_at, .int t_fault, .int t_open, .int t_asked, .int t_byGun, .int t_prizeMost, .ref a_t_order, .ref a_t_times, .int t_listed])), (a_t_now, .inl (cI, 1562, .inl t_now))] sz)) 0 0 (va_A [(a_t, .inr (11, [.int t_thrown, .ref a_t_now, .ref a_t_kept, .int t_isKept, .ref a_t_text, .int t_length, .ref a_t_passing, .int t_at, .int t_fault, .int t_open, .int t_asked, .int t_byGun, .int t_prizeMost, .ref a_t_order, .ref a_t_times, .int t_listed])), (a_t_now, .inl (cI, 1562, .inl t_now))] sz) := by
  refine Met.ofW (cc := cX11_count) (maxL := 5) (ret := (some .int)) (by decide) rfl ?_
  intro p e s m args below meth c s₁ B hml hv
  obtain ⟨rfl, hsz, hP, hK, hN, hZ, hD0⟩ := hv
  have hx := B.exec
  have hb := B.bytes
  have hr := B.returns
  have hts := atoms_spec (ws := wsX11_count) B.pre
  have hown : s.vm.findClass RX11 = some m.cls := findClass_of_methodNamed B.named
  have hlocks := B.notSynchronized
  subst hsz
  have hD := hD0.self (sz := s.heap.size)
  generalize hAe : va_A [(a_t, .inr (11, [.int t_thrown, .ref a_t_now, .ref a_t_kept, .int t_isKept, .ref a_t_text, .int t_length, .ref a_t_passing, .int t_at, .int t_fault, .int t_open, .int t_asked, .int t_byGun, .int t_prizeMost, .ref a_t_order, .ref a_t_times, .int t_listed])), (a_t_now, .inl (cI, 1562, .inl t_now))] s.heap.size = A at hD hZ ⊢
  have hA : ∀ q : Nat, s.heap.size ≤ q → A q := fun q h => by rw [← hAe]; exact Or.inr h
  have hS : va_S A s.heap s.heap [] := va_S.rf
  have hl := lv_entry ([.ref a_t, .int x1]) (n := 5) (Nat.le_of_ble_eq_true rfl)
  rw [lg_entry_eq]
  generalize (lg_sl ([.ref a_t, .int x1]) ++ List.replicate (5 - (lg_sl ([.ref a_t, .int x1])).length) Slot.unset).toArray = ls at hl ⊢
  have hl : lv_has ls 5 [(0, .ref a_t), (1, .int x1)] := hl
  unfold fX11_count at h
  refine lv_aload_n hx hb dX11_count_0 rfl (lv_at hl 0 rfl) ?_
  refine lv_iconst (v := (nI 0)) hx hb dX11_count_1 rfl ?_
  refine va_put (D := D) (ci := 11) (ty := .int) (C := RX11) (T := TX11) (N := 16) hx hb hts qX11_count_X11 tyX11 tyX11_ok nmX11 hown hK hP hD hS 0 rfl rfl 0 (by decide) (hts _ kX11_count_0) (fun _ h9 => h9) rfl (by decide +kernel) rfl (by first | rfl | exact zz_fit) (Nat.le_of_ble_eq_true rfl) dX11_count_2 (fun H locs hP hD hS => ?_)
  have hP : va_P D vwCl [(a_t, .inr (11, [.int (nI 0), .ref a_t_now, .ref a_t_kept, .int t_isKept, .ref a_t_text, .int t_length, .ref a_t_passing, .int t_at, .int t_fault, .int t_open, .int t_asked, .int t_byGun, .int t_prizeMost, .ref a_t_order, .ref a_t_times, .int t_listed])), (a_t_now, .inl (cI, 1562, .inl t_now))] H := hP
  have hD : va_D A [(a_t, .inr (11, [.int (nI 0), .ref a_t_now, .ref a_t_kept, .int t_isKept, .ref a_t_text, .int t_length, .ref a_t_passing, .int t_at, .int t_fault, .int t_open, .int t_asked, .int t_byGun, .int t_prizeMost, .ref a_t_order, .ref a_t_times, .int t_listed])), (a_t_now, .inl (cI, 1562, .inl t_now))] := hD
  refine lv_iload_n hx hb dX11_count_5 rfl (lv_at hl 1 rfl) ?_
  by_cases c1 : x1 = (nI 0)
  · have h := zz_t h c1
    refine lv_tableIn (off := 42) (tgt := 48) hx hb dX11_count_6 (by rw [c1]; decide) (by rw [c1]; decide) (by rw [c1]; rfl) (by decide) ?_
    refine lv_aload_n hx hb dX11_count_48 rfl (lv_at hl 0 rfl) ?_
    obtain ⟨r2, e3, h⟩ := zz_b h
    refine zVi (As := []) (rest := []) (C := RX11) (wr := []) [0, 1] [] 0 ⟨hx, hb, hml, hown, hts⟩ (mX11_mats l D cB cI cZ a_t a_t_now a_t_kept a_t_text a_t_passing a_t_order a_t_times (nI 0) t_isKept t_length t_at t_fault t_open t_asked t_byGun t_prizeMost t_listed t_now H.size r2 e3) (cwV 0 hts gX11_count_X11_mats rfl rfl rfl (by decide +kernel) ⟨Nat.le_of_ble_eq_true rfl, Nat.le_of_ble_eq_true rfl⟩) hK hN hZ hP hD hS hA rfl rfl rfl rfl rfl rfl rfl rfl hl.1 rfl (lv_room (Nat.le_of_ble_eq_true rfl)) dX11_count_49 ⟨Nat.le_of_ble_eq_true rfl, Nat.le_of_ble_eq_true rfl⟩ (fun H locs hP hD hS => ?_)
    have hP : va_P D vwCl [(a_t, .inr (11, [.int (nI 0), .ref a_t_now, .ref a_t_kept, .int t_isKept, .ref a_t_text, .int t_length, .ref a_t_passing, .int t_at, .int t_fault, .int t_open, .int t_asked, .int t_byGun, .int t_prizeMost, .ref a_t_order, .ref a_t_times, .int t_listed])), (a_t_now, .inl (cI, 1562, .inl t_now))] H := hP
    have hD : va_D A [(a_t, .inr (11, [.int (nI 0), .ref a_t_now, .ref a_t_kept, .int t_isKept, .ref a_t_text, .int t_length, .ref a_t_passing, .int t_at, .int t_fault, .int t_open, .int t_asked, .int t_byGun, .int t_prizeMost, .ref a_t_order, .ref a_t_times, .int t_listed])), (a_t_now, .inl (cI, 1562, .inl t_now))] := hD
    obtain ⟨j0_, g_⟩ := Prod.mk.inj (Option.some.inj h)
    have j1_ := g_
    subst j0_
    subst j1_
    exact W.iret (v := r2) hx hb hr (fun t ht hW => ⟨⟨_, (), rfl, rfl, zPost.of hP hD hK ht hW [0, 1] rfl rfl rfl⟩, hS.F ht⟩) hS.2.2 dX11_count_52
  · have h := zz_f h c1
    by_cases c4 : x1 = (nI 1)
    · have h := zz_t h c4
      refine lv_tableIn (off := 47) (tgt := 53) hx hb dX11_count_6 (by rw [c4]; decide) (by rw [c4]; decide) (by rw [c4]; rfl) (by decide) ?_
      refine lv_aload_n hx hb dX11_count_53 rfl (lv_at hl 0 rfl) ?_
      obtain ⟨r5, e6, h⟩ := zz_b h
      refine zVi (As := []) (rest := []) (C := RX11) (wr := []) [0, 1] [] 0 ⟨hx, hb, hml, hown, hts⟩ (mX11_runners l D cB cI cZ a_t a_t_now a_t_kept a_t_text a_t_passing a_t_order a_t_times (nI 0) t_isKept t_length t_at t_fault t_open t_asked t_byGun t_prizeMost t_listed t_now H.size r5 e6) (cwV 0 hts gX11_count_X11_runners rfl rfl rfl (by decide +kernel) ⟨Nat.le_of_ble_eq_true rfl, Nat.le_of_ble_eq_true rfl⟩) hK hN hZ hP hD hS hA rfl rfl rfl rfl rfl rfl rfl rfl hl.1 rfl (lv_room (Nat.le_of_ble_eq_true rfl)) dX11_count_54 ⟨Nat.le_of_ble_eq_true rfl, Nat.le_of_ble_eq_true rfl⟩ (fun H locs hP hD hS => ?_)
      have hP : va_P D vwCl [(a_t, .inr (11, [.int (nI 0), .ref a_t_now, .ref a_t_kept, .int t_isKept, .ref a_t_text, .int t_length, .ref a_t_passing, .int t_at, .int t_fault, .int t_open, .int t_asked, .int t_byGun, .int t_prizeMost, .ref a_t_order, .ref a_t_times, .int t_listed])), (a_t_now, .inl (cI, 1562, .inl t_now))] H := hP
      have hD : va_D A [(a_t, .inr (11, [.int (nI 0), .ref a_t_now, .ref a_t_kept, .int t_isKept, .ref a_t_text, .int t_length, .ref a_t_passing, .int t_at, .int t_fault, .int t_open, .int t_asked, .int t_byGun, .int t_prizeMost, .ref a_t_order, .ref a_t_times, .int t_listed])), (a_t_now, .inl (cI, 1562, .inl t_now))] := hD
      obtain ⟨j0_, g_⟩ := Prod.mk.inj (Option.some.inj h)
      have j1_ := g_
      subst j0_
      subst j1_
      exact W.iret (v := r5) hx hb hr (fun t ht hW => ⟨⟨_, (), rfl, rfl, zPost.of hP hD hK ht hW [0, 1] rfl rfl rfl⟩, hS.F ht⟩) hS.2.2 dX11_count_57
    · have h := zz_f h c4
      by_cases c7 : x1 = (nI 2)
      · have h := zz_t h c7
        refine lv_tableIn (off := 52) (tgt := 58) hx hb dX11_count_6 (by rw [c7]; decide) (by rw [c7]; decide) (by rw [c7]; rfl) (by decide) ?_
        refine lv_aload_n hx hb dX11_count_58 rfl (lv_at hl 0 rfl) ?_
        refine lv_iconst (v := (-1 : Int32)) hx hb dX11_count_59 rfl ?_
        refine lv_iconst (v := (nI 0)) hx hb dX11_count_60 rfl ?_
        obtain ⟨r8, e9, h⟩ := zz_b h
        refine zVi (As := [.int (-1 : Int32), .int (nI 0)]) (rest := []) (C := RX11) (wr := []) [0, 1] [] 0 ⟨hx, hb, hml, hown, hts⟩ (mX11_doubts l D cB cI cZ a_t a_t_now a_t_kept a_t_text a_t_passing a_t_order a_t_times (nI 0) t_isKept t_length t_at t_fault t_open t_asked t_byGun t_prizeMost t_listed t_now H.size (-1 : Int32) (nI 0) N r8 e9) (cwV 2 hts gX11_count_X11_doubts rfl rfl rfl (by decide +kernel) ⟨Nat.le_of_ble_eq_true rfl, Nat.le_of_ble_eq_true rfl⟩) hK hN hZ hP hD hS hA rfl rfl rfl rfl rfl rfl rfl rfl hl.1 rfl (lv_room (Nat.le_of_ble_eq_true rfl)) dX11_count_61 ⟨Nat.le_of_ble_eq_true rfl, Nat.le_of_ble_eq_true rfl⟩ (fun H locs hP hD hS => ?_)
        have hP : va_P D vwCl [(a_t, .inr (11, [.int (nI 0), .ref a_t_now, .ref a_t_kept, .int t_isKept, .ref a_t_text, .int t_length, .ref a_t_passing, .int t_at, .int t_fault, .int t_open, .int t_asked, .int t_byGun, .int t_prizeMost, .ref a_t_order, .ref a_t_times, .int t_listed])), (a_t_now, .inl (cI, 1562, .inl t_now))] H := hP
        have hD : va_D A [(a_t, .inr (11, [.int (nI 0), .ref a_t_now, .ref a_t_kept, .int t_isKept, .ref a_t_text, .int t_length, .ref a_t_passing, .int t_at, .int t_fault, .int t_open, .int t_asked, .int t_byGun, .int t_prizeMost, .ref a_t_order, .ref a_t_times, .int t_listed])), (a_t_now, .inl (cI, 1562, .inl t_now))] := hD
        obtain ⟨j0_, g_⟩ := Prod.mk.inj (Option.some.inj h)
        have j1_ := g_
        subst j0_
        subst j1_
        exact W.iret (v := r8) hx hb hr (fun t ht hW => ⟨⟨_, (), rfl, rfl, zPost.of hP hD hK ht hW [0, 1] rfl rfl rfl⟩, hS.F ht⟩) hS.2.2 dX11_count_64
      · have h := zz_f h c7
        by_cases c10 : x1 = (nI 3)
        · have h := zz_t h c10
          refine lv_tableIn (off := 59) (tgt := 65) hx hb dX11_count_6 (by rw [c10]; decide) (by rw [c10]; decide) (by rw [c10]; rfl) (by decide) ?_
          refine lv_aload_n hx hb dX11_count_65 rfl (lv_at hl 0 rfl) ?_
          refine va_get (D := D) (ci := 11) (C := RX11) (T := TX11) (N := 16) hx hb hts qX11_count_X11 hown hK hP 0 rfl rfl 5 (by decide) (hts _ kX11_count_2) (fun _ h9 => h9) rfl dX11_count_66 ?_
          obtain ⟨j0_, g_⟩ := Prod.mk.inj (Option.some.inj h)
          have j1_ := g_
          subst j0_
          subst j1_
          exact W.iret (v := t_length) hx hb hr (fun t ht hW => ⟨⟨_, (), rfl, rfl, zPost.of hP hD hK ht hW [0, 1] rfl rfl rfl⟩, hS.F ht⟩) hS.2.2 dX11_count_69
        · have h := zz_f h c10
          by_cases c11 : x1 = (nI 4)
          · have h := zz_t h c11
            refine lv_tableIn (off := 64) (tgt := 70) hx hb dX11_count_6 (by rw [c11]; decide) (by rw [c11]; decide) (by rw [c11]; rfl) (by decide) ?_
            refine lv_aload_n hx hb dX11_count_70 rfl (lv_at hl 0 rfl) ?_
            refine va_get (D := D) (ci := 11) (C := RX11) (T := TX11) (N := 16) hx hb hts qX11_count_X11 hown hK hP 0 rfl rfl 1 (by decide) (hts _ kX11_count_3) (fun _ h9 => h9) rfl dX11_count_71 ?_
            refine lv_iconst (v := (nI 2)) hx hb dX11_count_74 rfl ?_
            obtain ⟨i12, h⟩ := zz_i h
            refine va_iald hx hb hK hP 1 1 rfl rfl i12 dX11_count_75 ?_
            obtain ⟨j0_, g_⟩ := Prod.mk.inj (Option.some.inj h)
            have j1_ := g_
            subst j0_
            subst j1_
            exact W.iret (v := (t_now ((nI 2)).toNatClampNeg)) hx hb hr (fun t ht hW => ⟨⟨_, (), rfl, rfl, zPost.of hP hD hK ht hW [0, 1] rfl rfl rfl⟩, hS.F ht⟩) hS.2.2 dX11_count_76
          · have h := zz_f h c11
            by_cases c13 : x1 = (nI 5)
            · have h := zz_t h c13
              refine lv_tableIn (off := 71) (tgt := 77) hx hb dX11_count_6 (by rw [c13]; decide) (by rw [c13]; decide) (by rw [c13]; rfl) (by decide) ?_
              refine lv_iconst (v := (nI 0)) hx hb dX11_count_77 rfl ?_
              refine lv_istore_n (lv' := [(2, .int (nI 0)), (0, .ref a_t), (1, .int x1)]) hx hb dX11_count_78 rfl hl (by decide) rfl (fun ls hl => ?_)
              refine lv_iconst (v := (nI 0)) hx hb dX11_count_79 rfl ?_
              refine lv_istore_n (lv' := [(3, .int (nI 0)), (2, .int (nI 0)), (0, .ref a_t), (1, .int x1)]) hx hb dX11_count_80 rfl hl (by decide) rfl (fun ls hl => ?_)
              have X81_132 : ∀ (v2_81 : Int32) (v3_81 : Int32) (H : Heap) (locs : List Loc) (ls : Array Slot), some (v2_81, (nI 0)) = some (r0, t_thrown') → va_P D vwCl [(a_t, .inr (11, [.int (nI 0), .ref a_t_now, .ref a_t_kept, .int t_isKept, .ref a_t_text, .int t_length, .ref a_t_passing, .int t_at, .int t_fault, .int t_open, .int t_asked, .int t_byGun, .int t_prizeMost, .ref a_t_order, .ref a_t_times, .int t_listed])), (a_t_now, .inl (cI, 1562, .inl t_now))] H → va_D A [(a_t, .inr (11, [.int (nI 0), .ref a_t_now, .ref a_t_kept, .int t_isKept, .ref a_t_text, .int t_length, .ref a_t_passing, .int t_at, .int t_fault, .int t_open, .int t_asked, .int t_byGun, .int t_prizeMost, .ref a_t_order, .ref a_t_times, .int t_listed])), (a_t_now, .inl (cI, 1562, .inl t_now))] → va_S A s.heap H locs → lv_has ls 5 [(3, .int v3_81), (2, .int v2_81), (0, .ref a_t), (1, .int x1)] → W p l e (headSpec wsX11_count ({ frames := 7, cells := 0, slots := 0, locals := 169 } : Room)).room s m #[Value.ref a_t, Value.int x1] below meth c H locs 0 0 (MQ below (zQi r0 D (zT cB cI cZ) [(a_t, .inr (11, [.int t_thrown', .ref a_t_now, .ref a_t_kept, .int t_isKept, .ref a_t_text, .int t_length, .ref a_t_passing, .int t_at, .int t_fault, .int t_open, .int t_asked, .int t_byGun, .int t_prizeMost, .ref a_t_order, .ref a_t_times, .int t_listed])), (a_t_now, .inl (cI, 1562, .inl t_now))] A) #[Value.ref a_t, Value.int x1] s 0 0 A) (F0 m 132 ls []) := by
                intro v2_81 v3_81 H locs ls h hP hD hS hl
                refine lv_iload_n hx hb dX11_count_132 rfl (lv_at hl 1 rfl) ?_
                obtain ⟨j0_, g_⟩ := Prod.mk.inj (Option.some.inj h)
                have j1_ := g_
                subst j0_
                subst j1_
                exact W.iret (v := v2_81) hx hb hr (fun t ht hW => ⟨⟨_, (), rfl, rfl, zPost.of hP hD hK ht hW [0, 1] rfl rfl rfl⟩, hS.F ht⟩) hS.2.2 dX11_count_133
              have L81 : ∀ (n : Nat) (v2_81 : Int32) (v3_81 : Int32) (H : Heap) (locs : List Loc) (ls : Array Slot), fX11_count_L81 N t_now (fun (v2_81 : Int32) (v3_81 : Int32) => some (v2_81, (nI 0))) n v2_81 v3_81 = some (r0, t_thrown') → va_P D vwCl [(a_t, .inr (11, [.int (nI 0), .ref a_t_now, .ref a_t_kept, .int t_isKept, .ref a_t_text, .int t_length, .ref a_t_passing, .int t_at, .int t_fault, .int t_open, .int t_asked, .int t_byGun, .int t_prizeMost, .ref a_t_order, .ref a_t_times, .int t_listed])), (a_t_now, .inl (cI, 1562, .inl t_now))] H → va_D A [(a_t, .inr (11, [.int (nI 0), .ref a_t_now, .ref a_t_kept, .int t_isKept, .ref a_t_text, .int t_length, .ref a_t_passing, .int t_at, .int t_fault, .int t_open, .int t_asked, .int t_byGun, .int t_prizeMost, .ref a_t_order, .ref a_t_times, .int t_listed])), (a_t_now, .inl (cI, 1562, .inl t_now))] → va_S A s.heap H locs → lv_has ls 5 [(3, .int v3_81), (2, .int v2_81), (0, .ref a_t), (1, .int x1)] → W p l e (headSpec wsX11_count ({ frames := 7, cells := 0, slots := 0, locals := 169 } : Room)).room s m #[Value.ref a_t, Value.int x1] below meth c H locs 0 0 (MQ below (zQi r0 D (zT cB cI cZ) [(a_t, .inr (11, [.int t_thrown', .ref a_t_now, .ref a_t_kept, .int t_isKept, .ref a_t_text, .int t_length, .ref a_t_passing, .int t_at, .int t_fault, .int t_open, .int t_asked, .int t_byGun, .int t_prizeMost, .ref a_t_order, .ref a_t_times, .int t_listed])), (a_t_now, .inl (cI, 1562, .inl t_now))] A) #[Value.ref a_t, Value.int x1] s 0 0 A) (F0 m 81 ls []) := by
                intro n
                induction n with
                | zero => intro _ _ H locs ls h hP hD hS hl; cases h
                | succ n81 ih81 =>
                  intro v2_81 v3_81 H locs ls h hP hD hS hl
                  rw [fX11_count_L81.eq_2] at h
                  refine lv_iload_n hx hb dX11_count_81 rfl (lv_at hl 0 rfl) ?_
                  refine lv_aload_n hx hb dX11_count_82 rfl (lv_at hl 2 rfl) ?_
                  obtain ⟨r14, e15, h⟩ := zz_b h
                  refine zVi (As := []) (rest := [.int v3_81]) (C := RX11) (wr := []) [0, 1] [] 0 ⟨hx, hb, hml, hown, hts⟩ (mX11_runners l D cB cI cZ a_t a_t_now a_t_kept a_t_text a_t_passing a_t_order a_t_times (nI 0) t_isKept t_length t_at t_fault t_open t_asked t_byGun t_prizeMost t_listed t_now H.size r14 e15) (cwV 0 hts gX11_count_X11_runners rfl rfl rfl (by decide +kernel) ⟨Nat.le_of_ble_eq_true rfl, Nat.le_of_ble_eq_true rfl⟩) hK hN hZ hP hD hS hA rfl rfl rfl rfl rfl rfl rfl rfl hl.1 rfl (lv_room (Nat.le_of_ble_eq_true rfl)) dX11_count_83 ⟨Nat.le_of_ble_eq_true rfl, Nat.le_of_ble_eq_true rfl⟩ (fun H locs hP hD hS => ?_)
                  have hP : va_P D vwCl [(a_t, .inr (11, [.int (nI 0), .ref a_t_now, .ref a_t_kept, .int t_isKept, .ref a_t_text, .int t_length, .ref a_t_passing, .int t_at, .int t_fault, .int t_open, .int t_asked, .int t_byGun, .int t_prizeMost, .ref a_t_order, .ref a_t_times, .int t_listed])), (a_t_now, .inl (cI, 1562, .inl t_now))] H := hP
                  have hD : va_D A [(a_t, .inr (11, [.int (nI 0), .ref a_t_now, .ref a_t_kept, .int t_isKept, .ref a_t_text, .int t_length, .ref a_t_passing, .int t_at, .int t_fault, .int t_open, .int t_asked, .int t_byGun, .int t_prizeMost, .ref a_t_order, .ref a_t_times, .int t_listed])), (a_t_now, .inl (cI, 1562, .inl t_now))] := hD
                  refine lv_icmp_ge (tgt := 132) hx hb dX11_count_86 (by decide) (fun c16 => ?_) (fun c16 => ?_)
                  · have h := zz_t h c16
                    exact X81_132 v2_81 v3_81 _ _ _ h (hP.sub [0, 1] rfl) (hD.sub [0, 1] rfl rfl) hS (lv_sub hl [0, 1, 2, 3] rfl)
                  · have h := zz_f h c16
                    refine lv_iconst (v := (nI 0)) hx hb dX11_count_89 rfl ?_
                    refine lv_istore (lv' := [(4, .int (nI 0)), (3, .int v3_81), (2, .int v2_81), (0, .ref a_t), (1, .int x1)]) hx hb dX11_count_90 hl (by decide) rfl (fun ls hl => ?_)
                    have X92_126 : ∀ (v2_92 : Int32) (v4_92 : Int32) (H : Heap) (locs : List Loc) (ls : Array Slot), (fX11_count_L81 N t_now (fun (v2_81 : Int32) (v3_81 : Int32) => some (v2_81, (nI 0))) n81 v2_92 (v3_81 + (nI 1))) = some (r0, t_thrown') → va_P D vwCl [(a_t, .inr (11, [.int (nI 0), .ref a_t_now, .ref a_t_kept, .int t_isKept, .ref a_t_text, .int t_length, .ref a_t_passing, .int t_at, .int t_fault, .int t_open, .int t_asked, .int t_byGun, .int t_prizeMost, .ref a_t_order, .ref a_t_times, .int t_listed])), (a_t_now, .inl (cI, 1562, .inl t_now))] H → va_D A [(a_t, .inr (11, [.int (nI 0), .ref a_t_now, .ref a_t_kept, .int t_isKept, .ref a_t_text, .int t_length, .ref a_t_passing, .int t_at, .int t_fault, .int t_open, .int t_asked, .int t_byGun, .int t_prizeMost, .ref a_t_order, .ref a_t_times, .int t_listed])), (a_t_now, .inl (cI, 1562, .inl t_now))] → va_S A s.heap H locs → lv_has ls 5 [(4, .int v4_92), (3, .int v3_81), (2, .int v2_92), (0, .ref a_t), (1, .int x1)] → W p l e (headSpec wsX11_count ({ frames := 7, cells := 0, slots := 0, locals := 169 } : Room)).room s m #[Value.ref a_t, Value.int x1] below meth c H locs 0 0 (MQ below (zQi r0 D (zT cB cI cZ) [(a_t, .inr (11, [.int t_thrown', .ref a_t_now, .ref a_t_kept, .int t_isKept, .ref a_t_text, .int t_length, .ref a_t_passing, .int t_at, .int t_fault, .int t_open, .int t_asked, .int t_byGun, .int t_prizeMost, .ref a_t_order, .ref a_t_times, .int t_listed])), (a_t_now, .inl (cI, 1562, .inl t_now))] A) #[Value.ref a_t, Value.int x1] s 0 0 A) (F0 m 126 ls []) := by
                      intro v2_92 v4_92 H locs ls h hP hD hS hl
                      refine lv_iinc (v := (v3_81 + (nI 1))) (lv' := [(3, .int (v3_81 + (nI 1))), (4, .int v4_92), (2, .int v2_92), (0, .ref a_t), (1, .int x1)]) hx hb dX11_count_126 hl (k := 1) rfl rfl (by decide) rfl (fun ls hl => ?_)
                      refine lv_goto (tgt := 81) hx hb dX11_count_129 (by decide) ?_
                      exact ih81 v2_92 (v3_81 + (nI 1)) _ _ _ h (hP.sub [0, 1] rfl) (hD.sub [0, 1] rfl rfl) hS (lv_sub hl [0, 2, 3, 4] rfl)
                    have L92 : ∀ (n : Nat) (v2_92 : Int32) (v4_92 : Int32) (H : Heap) (locs : List Loc) (ls : Array Slot), fX11_count_L92 t_now v3_81 (fun (v2_92 : Int32) (v4_92 : Int32) => (fX11_count_L81 N t_now (fun (v2_81 : Int32) (v3_81 : Int32) => some (v2_81, (nI 0))) n81 v2_92 (v3_81 + (nI 1)))) n v2_92 v4_92 = some (r0, t_thrown') → va_P D vwCl [(a_t, .inr (11, [.int (nI 0), .ref a_t_now, .ref a_t_kept, .int t_isKept, .ref a_t_text, .int t_length, .ref a_t_passing, .int t_at, .int t_fault, .int t_open, .int t_asked, .int t_byGun, .int t_prizeMost, .ref a_t_order, .ref a_t_times, .int t_listed])), (a_t_now, .inl (cI, 1562, .inl t_now))] H → va_D A [(a_t, .inr (11, [.int (nI 0), .ref a_t_now, .ref a_t_kept, .int t_isKept, .ref a_t_text, .int t_length, .ref a_t_passing, .int t_at, .int t_fault, .int t_open, .int t_asked, .int t_byGun, .int t_prizeMost, .ref a_t_order, .ref a_t_times, .int t_listed])), (a_t_now, .inl (cI, 1562, .inl t_now))] → va_S A s.heap H locs → lv_has ls 5 [(4, .int v4_92), (3, .int v3_81), (2, .int v2_92), (0, .ref a_t), (1, .int x1)] → W p l e (headSpec wsX11_count ({ frames := 7, cells := 0, slots := 0, locals := 169 } : Room)).room s m #[Value.ref a_t, Value.int x1] below meth c H locs 0 0 (MQ below (zQi r0 D (zT cB cI cZ) [(a_t, .inr (11, [.int t_thrown', .ref a_t_now, .ref a_t_kept, .int t_isKept, .ref a_t_text, .int t_length, .ref a_t_passing, .int t_at, .int t_fault, .int t_open, .int t_asked, .int t_byGun, .int t_prizeMost, .ref a_t_order, .ref a_t_times, .int t_listed])), (a_t_now, .inl (cI, 1562, .inl t_now))] A) #[Value.ref a_t, Value.int x1] s 0 0 A) (F0 m 92 ls []) := by
                      intro n
                      induction n with
                      | zero => intro _ _ H locs ls h hP hD hS hl; cases h
                      | succ n92 ih92 =>
                        intro v2_92 v4_92 H locs ls h hP hD hS hl
                        rw [fX11_count_L92.eq_2] at h
                        refine lv_iload hx hb dX11_count_92 (lv_at hl 0 rfl) ?_
                        refine lv_aload_n hx hb dX11_count_94 rfl (lv_at hl 3 rfl) ?_
                        obtain ⟨r17, e18, h⟩ := zz_b h
                        refine zVi (As := []) (rest := [.int v4_92]) (C := RX11) (wr := []) [0, 1] [] 0 ⟨hx, hb, hml, hown, hts⟩ (mX11_mats l D cB cI cZ a_t a_t_now a_t_kept a_t_text a_t_passing a_t_order a_t_times (nI 0) t_isKept t_length t_at t_fault t_open t_asked t_byGun t_prizeMost t_listed t_now H.size r17 e18) (cwV 0 hts gX11_count_X11_mats rfl rfl rfl (by decide +kernel) ⟨Nat.le_of_ble_eq_true rfl, Nat.le_of_ble_eq_true rfl⟩) hK hN hZ hP hD hS hA rfl rfl rfl rfl rfl rfl rfl rfl hl.1 rfl (lv_room (Nat.le_of_ble_eq_true rfl)) dX11_count_95 ⟨Nat.le_of_ble_eq_true rfl, Nat.le_of_ble_eq_true rfl⟩ (fun H locs hP hD hS => ?_)
                        have hP : va_P D vwCl [(a_t, .inr (11, [.int (nI 0), .ref a_t_now, .ref a_t_kept, .int t_isKept, .ref a_t_text, .int t_length, .ref a_t_passing, .int t_at, .int t_fault, .int t_open, .int t_asked, .int t_byGun, .int t_prizeMost, .ref a_t_order, .ref a_t_times, .int t_listed])), (a_t_now, .inl (cI, 1562, .inl t_now))] H := hP
                        have hD : va_D A [(a_t, .inr (11, [.int (nI 0), .ref a_t_now, .ref a_t_kept, .int t_isKept, .ref a_t_text, .int t_length, .ref a_t_passing, .int t_at, .int t_fault, .int t_open, .int t_asked, .int t_byGun, .int t_prizeMost, .ref a_t_order, .ref a_t_times, .int t_listed])), (a_t_now, .inl (cI, 1562, .inl t_now))] := hD
                        refine lv_icmp_ge (tgt := 126) hx hb dX11_count_98 (by decide) (fun c19 => ?_) (fun c19 => ?_)
                        · have h := zz_t h c19
                          exact X92_126 v2_92 v4_92 _ _ _ h (hP.sub [0, 1] rfl) (hD.sub [0, 1] rfl rfl) hS (lv_sub hl [0, 1, 2, 3, 4] rfl)
                        · have h := zz_f h c19
                          refine lv_iload_n hx hb dX11_count_101 rfl (lv_at hl 2 rfl) ?_
                          refine lv_aload_n hx hb dX11_count_102 rfl (lv_at hl 3 rfl) ?_
                          refine lv_iload_n hx hb dX11_count_103 rfl (lv_at hl 1 rfl) ?_
                          refine lv_iload hx hb dX11_count_104 (lv_at hl 0 rfl) ?_
                          obtain ⟨r20, e21, h⟩ := zz_b h
                          refine zVi (As := [.int v3_81, .int v4_92]) (rest := [.int v2_92]) (C := RX11) (wr := []) [0, 1] [] 0 ⟨hx, hb, hml, hown, hts⟩ (mX11_splitOf l D cB cI cZ a_t a_t_now a_t_kept a_t_text a_t_passing a_t_order a_t_times (nI 0) t_isKept t_length t_at t_fault t_open t_asked t_byGun t_prizeMost t_listed t_now H.size v3_81 v4_92 r20 e21) (cwV 2 hts gX11_count_X11_splitOf rfl rfl rfl (by decide +kernel) ⟨Nat.le_of_ble_eq_true rfl, Nat.le_of_ble_eq_true rfl⟩) hK hN hZ hP hD hS hA rfl rfl rfl rfl rfl rfl rfl rfl hl.1 rfl (lv_room (Nat.le_of_ble_eq_true rfl)) dX11_count_106 ⟨Nat.le_of_ble_eq_true rfl, Nat.le_of_ble_eq_true rfl⟩ (fun H locs hP hD hS => ?_)
                          have hP : va_P D vwCl [(a_t, .inr (11, [.int (nI 0), .ref a_t_now, .ref a_t_kept, .int t_isKept, .ref a_t_text, .int t_length, .ref a_t_passing, .int t_at, .int t_fault, .int t_open, .int t_asked, .int t_byGun, .int t_prizeMost, .ref a_t_order, .ref a_t_times, .int t_listed])), (a_t_now, .inl (cI, 1562, .inl t_now))] H := hP
                          have hD : va_D A [(a_t, .inr (11, [.int (nI 0), .ref a_t_now, .ref a_t_kept, .int t_isKept, .ref a_t_text, .int t_length, .ref a_t_passing, .int t_at, .int t_fault, .int t_open, .int t_asked, .int t_byGun, .int t_prizeMost, .ref a_t_order, .ref a_t_times, .int t_listed])), (a_t_now, .inl (cI, 1562, .inl t_now))] := hD
                          refine lv_iconst (v := (-1 : Int32)) hx hb dX11_count_109 rfl ?_
                          refine lv_icmp_eq (tgt := 117) hx hb dX11_count_110 (by decide) (fun c22 => ?_) (fun c22 => ?_)
                          · have h := zz_t h c22
                            refine lv_iconst (v := (nI 0)) hx hb dX11_count_117 rfl ?_
                            refine lv_iadd hx hb dX11_count_118 ?_
                            refine lv_istore_n (lv' := [(2, .int (v2_92 + (nI 0))), (4, .int v4_92), (3, .int v3_81), (0, .ref a_t), (1, .int x1)]) hx hb dX11_count_119 rfl hl (by decide) rfl (fun ls hl => ?_)
                            refine lv_iinc (v := (v4_92 + (nI 1))) (lv' := [(4, .int (v4_92 + (nI 1))), (2, .int (v2_92 + (nI 0))), (3, .int v3_81), (0, .ref a_t), (1, .int x1)]) hx hb dX11_count_120 hl (k := 1) rfl rfl (by decide) rfl (fun ls hl => ?_)
                            refine lv_goto (tgt := 92) hx hb dX11_count_123 (by decide) ?_
                            exact ih92 (v2_92 + (nI 0)) (v4_92 + (nI 1)) _ _ _ h (hP.sub [0, 1] rfl) (hD.sub [0, 1] rfl rfl) hS (lv_sub hl [0, 2, 1, 3, 4] rfl)
                          · have h := zz_f h c22
                            refine lv_iconst (v := (nI 1)) hx hb dX11_count_113 rfl ?_
                            refine lv_goto (tgt := 118) hx hb dX11_count_114 (by decide) ?_
                            refine lv_iadd hx hb dX11_count_118 ?_
                            refine lv_istore_n (lv' := [(2, .int (v2_92 + (nI 1))), (4, .int v4_92), (3, .int v3_81), (0, .ref a_t), (1, .int x1)]) hx hb dX11_count_119 rfl hl (by decide) rfl (fun ls hl => ?_)
                            refine lv_iinc (v := (v4_92 + (nI 1))) (lv' := [(4, .int (v4_92 + (nI 1))), (2, .int (v2_92 + (nI 1))), (3, .int v3_81), (0, .ref a_t), (1, .int x1)]) hx hb dX11_count_120 hl (k := 1) rfl rfl (by decide) rfl (fun ls hl => ?_)
                            refine lv_goto (tgt := 92) hx hb dX11_count_123 (by decide) ?_
                            exact ih92 (v2_92 + (nI 1)) (v4_92 + (nI 1)) _ _ _ h (hP.sub [0, 1] rfl) (hD.sub [0, 1] rfl rfl) hS (lv_sub hl [0, 2, 1, 3, 4] rfl)
                    exact L92 N v2_81 (nI 0) _ _ _ h hP hD hS hl
              exact L81 N (nI 0) (nI 0) _ _ _ h hP hD hS hl
            · have h := zz_f h c13
              by_cases c23 : x1 = (nI 6)
              · have h := zz_t h c23
                refine lv_tableIn (off := 128) (tgt := 134) hx hb dX11_count_6 (by rw [c23]; decide) (by rw [c23]; decide) (by rw [c23]; rfl) (by decide) ?_
                refine lv_aload_n hx hb dX11_count_134 rfl (lv_at hl 0 rfl) ?_
                obtain ⟨r24, e25, h⟩ := zz_b h
                refine zVi (As := []) (rest := []) (C := RX11) (wr := []) [0, 1] [] 0 ⟨hx, hb, hml, hown, hts⟩ (mX11_wayLength l D cB cI cZ a_t a_t_now a_t_kept a_t_text a_t_passing a_t_order a_t_times (nI 0) t_isKept t_length t_at t_fault t_open t_asked t_byGun t_prizeMost t_listed t_now H.size r24 e25) (cwV 0 hts gX11_count_X11_wayLength rfl rfl rfl (by decide +kernel) ⟨Nat.le_of_ble_eq_true rfl, Nat.le_of_ble_eq_true rfl⟩) hK hN hZ hP hD hS hA rfl rfl rfl rfl rfl rfl rfl rfl hl.1 rfl (lv_room (Nat.le_of_ble_eq_true rfl)) dX11_count_135 ⟨Nat.le_of_ble_eq_true rfl, Nat.le_of_ble_eq_true rfl⟩ (fun H locs hP hD hS => ?_)
                have hP : va_P D vwCl [(a_t, .inr (11, [.int (nI 0), .ref a_t_now, .ref a_t_kept, .int t_isKept, .ref a_t_text, .int t_length, .ref a_t_passing, .int t_at, .int t_fault, .int t_open, .int t_asked, .int t_byGun, .int t_prizeMost, .ref a_t_order, .ref a_t_times, .int t_listed])), (a_t_now, .inl (cI, 1562, .inl t_now))] H := hP
                have hD : va_D A [(a_t, .inr (11, [.int (nI 0), .ref a_t_now, .ref a_t_kept, .int t_isKept, .ref a_t_text, .int t_length, .ref a_t_passing, .int t_at, .int t_fault, .int t_open, .int t_asked, .int t_byGun, .int t_prizeMost, .ref a_t_order, .ref a_t_times, .int t_listed])), (a_t_now, .inl (cI, 1562, .inl t_now))] := hD
                obtain ⟨j0_, g_⟩ := Prod.mk.inj (Option.some.inj h)
                have j1_ := g_
                subst j0_
                subst j1_
                exact W.iret (v := r24) hx hb hr (fun t ht hW => ⟨⟨_, (), rfl, rfl, zPost.of hP hD hK ht hW [0, 1] rfl rfl rfl⟩, hS.F ht⟩) hS.2.2 dX11_count_138
              · have h := zz_f h c23
                refine lv_tableOut (tgt := 139) hx hb dX11_count_6 (by have n0_ := lv_neT c1 (a := 0) rfl; have n1_ := lv_neT c4 (a := 1) rfl; have n2_ := lv_neT c7 (a := 2) rfl; have n3_ := lv_neT c10 (a := 3) rfl; have n4_ := lv_neT c11 (a := 4) rfl; have n5_ := lv_neT c13 (a := 5) rfl; have n6_ := lv_neT c23 (a := 6) rfl; omega) (by decide) ?_
                refine lv_iconst (v := (-1 : Int32)) hx hb dX11_count_139 rfl ?_
                obtain ⟨j0_, g_⟩ := Prod.mk.inj (Option.some.inj h)
                have j1_ := g_
                subst j0_
                subst j1_
                exact W.iret (v := (-1 : Int32)) hx hb hr (fun t ht hW => ⟨⟨_, (), rfl, rfl, zPost.of hP hD hK ht hW [0, 1] rfl rfl rfl⟩, hS.F ht⟩) hS.2.2 dX11_count_140
/-! RunDeskModel.image -/
theorem dX11_image_0 : decode cX11_image 0 = .ok (.aload_n 0, 1) := by decide +kernel
theorem dX11_image_1 : decode cX11_image 1 = .ok (.iconst 0, 1) := by decide +kernel
theorem dX11_image_2 : decode cX11_image 2 = .ok (.putfield 37, 3) := by decide +kernel
theorem dX11_image_5 : decode cX11_image 5 = .ok (.iconst 0, 1) := by decide +kernel
theorem dX11_image_6 : decode cX11_image 6 = .ok (.istore_n 1, 1) := by decide +kernel
theorem dX11_image_7 : decode cX11_image 7 = .ok (.iload_n 1, 1) := by decide +kernel
theorem dX11_image_8 : decode cX11_image 8 = .ok (.sipush 1562, 3) := by decide +kernel
theorem dX11_image_11 : decode cX11_image 11 = .ok (.if_icmp .ge 21, 3) := by decide +kernel
theorem dX11_image_14 : decode cX11_image 14 = .ok (.aload_n 0, 1) := by decide +kernel
theorem dX11_image_15 : decode cX11_image 15 = .ok (.getfield 13, 3) := by decide +kernel
theorem dX11_image_18 : decode cX11_image 18 = .ok (.iload_n 1, 1) := by decide +kernel
theorem dX11_image_19 : decode cX11_image 19 = .ok (.aload_n 0, 1) := by decide +kernel
theorem dX11_image_20 : decode cX11_image 20 = .ok (.getfield 9, 3) := by decide +kernel
theorem dX11_image_23 : decode cX11_image 23 = .ok (.iload_n 1, 1) := by decide +kernel
theorem dX11_image_24 : decode cX11_image 24 = .ok (.iaload, 1) := by decide +kernel
theorem dX11_image_25 : decode cX11_image 25 = .ok (.iastore, 1) := by decide +kernel
theorem dX11_image_26 : decode cX11_image 26 = .ok (.iinc 1 1, 3) := by decide +kernel
theorem dX11_image_29 : decode cX11_image 29 = .ok (.goto (-22), 3) := by decide +kernel
theorem dX11_image_32 : decode cX11_image 32 = .ok (.aload_n 0, 1) := by decide +kernel
theorem dX11_image_33 : decode cX11_image 33 = .ok (.iconst 1, 1) := by decide +kernel
theorem dX11_image_34 : decode cX11_image 34 = .ok (.putfield 207, 3) := by decide +kernel
theorem dX11_image_37 : decode cX11_image 37 = .ok (.return_, 1) := by decide +kernel
theorem kX11_image_0 : (.fieldLink RX11 37 "RunDeskModel" "thrown" "I" : Cond) ∈ wsX11_image := List.mem_of_getElem? (i := 1) (by decide +kernel)
theorem qX11_image_X11 : ∀ w ∈ wsX110, w ∈ wsX11_image := fun _ h => List.mem_cons_of_mem _ (List.mem_append_right _ (h))
theorem kX11_image_2 : (.fieldLink RX11 207 "RunDeskModel" "isKept" "Z" : Cond) ∈ wsX11_image := List.mem_of_getElem? (i := 4) (by decide +kernel)
theorem kX11_image_3 : (.fieldLink RX11 13 "RunDeskModel" "kept" "[I" : Cond) ∈ wsX11_image := List.mem_of_getElem? (i := 2) (by decide +kernel)
theorem kX11_image_4 : (.fieldLink RX11 9 "RunDeskModel" "now" "[I" : Cond) ∈ wsX11_image := List.mem_of_getElem? (i := 3) (by decide +kernel)
set_option maxHeartbeats 4000000 in
set_option maxRecDepth 100000 in
theorem mX11_image (l : Launch) (D : va_G) (cB cI cZ : ClassId) (a_t : Nat) (a_t_now : Nat) (a_t_kept : Nat) (a_t_text : Nat) (a_t_passing : Nat) (a_t_order : Nat) (a_t_times : Nat) (t_thrown : Int32) (t_isKept : Int32) (t_length : Int32) (t_at : Int32) (t_fault : Int32) (t_open : Int32) (t_asked : Int32) (t_byGun : Int32) (t_prizeMost : Int32) (t_listed : Int32) (t_kept : Nat → Int32) (t_now : Nat → Int32) (sz : Nat) (N : Nat) (t_isKept' : Int32) (t_thrown' : Int32) (t_kept' : Nat → Int32) (h : fX11_image N t_isKept t_thrown t_kept t_now = some (t_isKept', t_thrown', t_kept')) : Met l yX11_image wsX11_image ({ frames := 0, cells := 0, slots := 0, locals := 0 } : Room) (va_Pc [.ref a_t] (zPre D (zT cB cI cZ) [(a_t, .inr (11, [.int t_thrown, .ref a_t_now, .ref a_t_kept, .int t_isKept, .ref a_t_text, .int t_length, .ref a_t_passing, .int t_at, .int t_fault, .int t_open, .int t_asked, .int t_byGun, .int t_prizeMost, .ref a_t_order, .ref a_t_times, .int t_listed])), (a_t_kept, .inl (cI, 1562, .inl t_kept)), (a_t_now, .inl (cI, 1562, .inl t_now))] sz)) (zQv D (zT cB cI cZ) [(a_t, .inr (11, [.int t_thrown', .ref a_t_now, .ref a_t_kept, .int t_isKept', .ref a_t_text, .int t_length, .ref a_t_passing, .int t_at, .int t_fault, .int t_open, .int t_asked, .int t_byGun, .int t_prizeMost, .ref a_t_order, .ref a_t_times, .int t_listed])), (a_t_kept, .inl (cI, 1562, .inl t_kept')), (a_t_now, .inl (cI, 1562, .inl t_now))] (va_A [(a_t, .inr (11, [.int t_thrown, .ref a_t_now, .ref a_t_kept, .int t_isKept, .ref a_t_text, .int t_length, .ref a_t_passing, .int t_at, .int t_fault, .int t_open, .int t_asked, .int t_byGun, .int t_prizeMost, .ref a_t_order, .ref a_t_times, .int t_listed])), (a_t_kept, .inl (cI, 1562, .inl t_kept)), (a_t_now, .inl (cI, 1562, .inl t_now))] sz)) 0 0 (va_A [(a_t, .inr (11, [.int t_thrown, .ref a_t_now, .ref a_t_kept, .int t_isKept, .ref a_t_text, .int t_length, .ref a_t_passing, .int t_at, .int t_fault, .int t_open, .int t_asked, .int t_byGun, .int t_prizeMost, .ref a_t_order, .ref a_t_times, .int t_listed])), (a_t_kept, .inl (cI, 1562, .inl t_kept)), (a_t_now, .inl (cI, 1562, .inl t_now))] sz) := by
  refine Met.ofW (cc := cX11_image) (maxL := 2) (ret := none) (by decide) rfl ?_
  intro p e s m args below meth c s₁ B hml hv
  obtain ⟨rfl, hsz, hP, hK, hN, hZ, hD0⟩ := hv
  have hx := B.exec
  have hb := B.bytes
  have hr := B.returns
  have hts := atoms_spec (ws := wsX11_image) B.pre
  have hown : s.vm.findClass RX11 = some m.cls := findClass_of_methodNamed B.named
  have hlocks := B.notSynchronized
  subst hsz
  have hD := hD0.self (sz := s.heap.size)
  generalize hAe : va_A [(a_t, .inr (11, [.int t_thrown, .ref a_t_now, .ref a_t_kept, .int t_isKept, .ref a_t_text, .int t_length, .ref a_t_passing, .int t_at, .int t_fault, .int t_open, .int t_asked, .int t_byGun, .int t_prizeMost, .ref a_t_order, .ref a_t_times, .int t_listed])), (a_t_kept, .inl (cI, 1562, .inl t_kept)), (a_t_now, .inl (cI, 1562, .inl t_now))] s.heap.size = A at hD hZ ⊢
  have hA : ∀ q : Nat, s.heap.size ≤ q → A q := fun q h => by rw [← hAe]; exact Or.inr h
  have hS : va_S A s.heap s.heap [] := va_S.rf
  have hl := lv_entry ([.ref a_t]) (n := 2) (Nat.le_of_ble_eq_true rfl)
  rw [lg_entry_eq]
  generalize (lg_sl ([.ref a_t]) ++ List.replicate (2 - (lg_sl ([.ref a_t])).length) Slot.unset).toArray = ls at hl ⊢
  have hl : lv_has ls 2 [(0, .ref a_t)] := hl
  unfold fX11_image at h
  refine lv_aload_n hx hb dX11_image_0 rfl (lv_at hl 0 rfl) ?_
  refine lv_iconst (v := (nI 0)) hx hb dX11_image_1 rfl ?_
  refine va_put (D := D) (ci := 11) (ty := .int) (C := RX11) (T := TX11) (N := 16) hx hb hts qX11_image_X11 tyX11 tyX11_ok nmX11 hown hK hP hD hS 0 rfl rfl 0 (by decide) (hts _ kX11_image_0) (fun _ h9 => h9) rfl (by decide +kernel) rfl (by first | rfl | exact zz_fit) (Nat.le_of_ble_eq_true rfl) dX11_image_2 (fun H locs hP hD hS => ?_)
  have hP : va_P D vwCl [(a_t, .inr (11, [.int (nI 0), .ref a_t_now, .ref a_t_kept, .int t_isKept, .ref a_t_text, .int t_length, .ref a_t_passing, .int t_at, .int t_fault, .int t_open, .int t_asked, .int t_byGun, .int t_prizeMost, .ref a_t_order, .ref a_t_times, .int t_listed])), (a_t_kept, .inl (cI, 1562, .inl t_kept)), (a_t_now, .inl (cI, 1562, .inl t_now))] H := hP
  have hD : va_D A [(a_t, .inr (11, [.int (nI 0), .ref a_t_now, .ref a_t_kept, .int t_isKept, .ref a_t_text, .int t_length, .ref a_t_passing, .int t_at, .int t_fault, .int t_open, .int t_asked, .int t_byGun, .int t_prizeMost, .ref a_t_order, .ref a_t_times, .int t_listed])), (a_t_kept, .inl (cI, 1562, .inl t_kept)), (a_t_now, .inl (cI, 1562, .inl t_now))] := hD
  refine lv_iconst (v := (nI 0)) hx hb dX11_image_5 rfl ?_
  refine lv_istore_n (lv' := [(1, .int (nI 0)), (0, .ref a_t)]) hx hb dX11_image_6 rfl hl (by decide) rfl (fun ls hl => ?_)
  have X7_32 : ∀ (v1_7 : Int32) (t_kept_l7 : Nat → Int32) (H : Heap) (locs : List Loc) (ls : Array Slot), some ((nI 1), (nI 0), t_kept_l7) = some (t_isKept', t_thrown', t_kept') → va_P D vwCl [(a_t, .inr (11, [.int (nI 0), .ref a_t_now, .ref a_t_kept, .int t_isKept, .ref a_t_text, .int t_length, .ref a_t_passing, .int t_at, .int t_fault, .int t_open, .int t_asked, .int t_byGun, .int t_prizeMost, .ref a_t_order, .ref a_t_times, .int t_listed])), (a_t_kept, .inl (cI, 1562, .inl t_kept_l7)), (a_t_now, .inl (cI, 1562, .inl t_now))] H → va_D A [(a_t, .inr (11, [.int (nI 0), .ref a_t_now, .ref a_t_kept, .int t_isKept, .ref a_t_text, .int t_length, .ref a_t_passing, .int t_at, .int t_fault, .int t_open, .int t_asked, .int t_byGun, .int t_prizeMost, .ref a_t_order, .ref a_t_times, .int t_listed])), (a_t_kept, .inl (cI, 1562, .inl t_kept_l7)), (a_t_now, .inl (cI, 1562, .inl t_now))] → va_S A s.heap H locs → lv_has ls 2 [(1, .int v1_7), (0, .ref a_t)] → W p l e (headSpec wsX11_image ({ frames := 0, cells := 0, slots := 0, locals := 0 } : Room)).room s m #[Value.ref a_t] below meth c H locs 0 0 (MQ below (zQv D (zT cB cI cZ) [(a_t, .inr (11, [.int t_thrown', .ref a_t_now, .ref a_t_kept, .int t_isKept', .ref a_t_text, .int t_length, .ref a_t_passing, .int t_at, .int t_fault, .int t_open, .int t_asked, .int t_byGun, .int t_prizeMost, .ref a_t_order, .ref a_t_times, .int t_listed])), (a_t_kept, .inl (cI, 1562, .inl t_kept')), (a_t_now, .inl (cI, 1562, .inl t_now))] A) #[Value.ref a_t] s 0 0 A) (F0 m 32 ls []) := by
    intro v1_7 t_kept_l7 H locs ls h hP hD hS hl
    refine lv_aload_n hx hb dX11_image_32 rfl (lv_at hl 1 rfl) ?_
    refine lv_iconst (v := (nI 1)) hx hb dX11_image_33 rfl ?_
    refine va_put (D := D) (ci := 11) (ty := .boolean) (C := RX11) (T := TX11) (N := 16) hx hb hts qX11_image_X11 tyX11 tyX11_ok nmX11 hown hK hP hD hS 0 rfl rfl 3 (by decide) (hts _ kX11_image_2) (fun _ h9 => h9) rfl (by decide +kernel) rfl (by first | rfl | exact zz_fit) (Nat.le_of_ble_eq_true rfl) dX11_image_34 (fun H locs hP hD hS => ?_)
    have hP : va_P D vwCl [(a_t, .inr (11, [.int (nI 0), .ref a_t_now, .ref a_t_kept, .int (nI 1), .ref a_t_text, .int t_length, .ref a_t_passing, .int t_at, .int t_fault, .int t_open, .int t_asked, .int t_byGun, .int t_prizeMost, .ref a_t_order, .ref a_t_times, .int t_listed])), (a_t_kept, .inl (cI, 1562, .inl t_kept_l7)), (a_t_now, .inl (cI, 1562, .inl t_now))] H := hP
    have hD : va_D A [(a_t, .inr (11, [.int (nI 0), .ref a_t_now, .ref a_t_kept, .int (nI 1), .ref a_t_text, .int t_length, .ref a_t_passing, .int t_at, .int t_fault, .int t_open, .int t_asked, .int t_byGun, .int t_prizeMost, .ref a_t_order, .ref a_t_times, .int t_listed])), (a_t_kept, .inl (cI, 1562, .inl t_kept_l7)), (a_t_now, .inl (cI, 1562, .inl t_now))] := hD
    obtain ⟨j0_, g_⟩ := Prod.mk.inj (Option.some.inj h)
    obtain ⟨j1_, g_⟩ := Prod.mk.inj g_
    have j2_ := g_
    subst j0_
    subst j1_
    subst j2_
    exact W.vret hx hb hr (fun t ht hW => ⟨⟨(), rfl, trivial, zPost.of hP hD hK ht hW [0, 1, 2] rfl rfl rfl⟩, hS.F ht⟩) hS.2.2 dX11_image_37
  have L7 : ∀ (n : Nat) (v1_7 : Int32) (t_kept_l7 : Nat → Int32) (H : Heap) (locs : List Loc) (ls : Array Slot), fX11_image_L7 t_now (fun (v1_7 : Int32) (t_kept_l7 : Nat → Int32) => some ((nI 1), (nI 0), t_kept_l7)) n v1_7 t_kept_l7 = some (t_isKept', t_thrown', t_kept') → va_P D vwCl [(a_t, .inr (11, [.int (nI 0), .ref a_t_now, .ref a_t_kept, .int t_isKept, .ref a_t_text, .int t_length, .ref a_t_passing, .int t_at, .int t_fault, .int t_open, .int t_asked, .int t_byGun, .int t_prizeMost, .ref a_t_order, .ref a_t_times, .int t_listed])), (a_t_kept, .inl (cI, 1562, .inl t_kept_l7)), (a_t_now, .inl (cI, 1562, .inl t_now))] H → va_D A [(a_t, .inr (11, [.int (nI 0), .ref a_t_now, .ref a_t_kept, .int t_isKept, .ref a_t_text, .int t_length, .ref a_t_passing, .int t_at, .int t_fault, .int t_open, .int t_asked, .int t_byGun, .int t_prizeMost, .ref a_t_order, .ref a_t_times, .int t_listed])), (a_t_kept, .inl (cI, 1562, .inl t_kept_l7)), (a_t_now, .inl (cI, 1562, .inl t_now))] → va_S A s.heap H locs → lv_has ls 2 [(1, .int v1_7), (0, .ref a_t)] → W p l e (headSpec wsX11_image ({ frames := 0, cells := 0, slots := 0, locals := 0 } : Room)).room s m #[Value.ref a_t] below meth c H locs 0 0 (MQ below (zQv D (zT cB cI cZ) [(a_t, .inr (11, [.int t_thrown', .ref a_t_now, .ref a_t_kept, .int t_isKept', .ref a_t_text, .int t_length, .ref a_t_passing, .int t_at, .int t_fault, .int t_open, .int t_asked, .int t_byGun, .int t_prizeMost, .ref a_t_order, .ref a_t_times, .int t_listed])), (a_t_kept, .inl (cI, 1562, .inl t_kept')), (a_t_now, .inl (cI, 1562, .inl t_now))] A) #[Value.ref a_t] s 0 0 A) (F0 m 7 ls []) := by
    intro n
    induction n with
    | zero => intro _ _ H locs ls h hP hD hS hl; cases h
    | succ n7 ih7 =>
      intro v1_7 t_kept_l7 H locs ls h hP hD hS hl
      rw [fX11_image_L7.eq_2] at h
      refine lv_iload_n hx hb dX11_image_7 rfl (lv_at hl 0 rfl) ?_
      refine lv_sipush (v := (nI 1562)) hx hb dX11_image_8 rfl ?_
      refine lv_icmp_ge (tgt := 32) hx hb dX11_image_11 (by decide) (fun c1 => ?_) (fun c1 => ?_)
      · have h := zz_t h c1
        exact X7_32 v1_7 t_kept_l7 _ _ _ h (hP.sub [0, 1, 2] rfl) (hD.sub [0, 1, 2] rfl rfl) hS (lv_sub hl [0, 1] rfl)
      · have h := zz_f h c1
        refine lv_aload_n hx hb dX11_image_14 rfl (lv_at hl 1 rfl) ?_
        refine va_get (D := D) (ci := 11) (C := RX11) (T := TX11) (N := 16) hx hb hts qX11_image_X11 hown hK hP 0 rfl rfl 2 (by decide) (hts _ kX11_image_3) (fun _ h9 => h9) rfl dX11_image_15 ?_
        refine lv_iload_n hx hb dX11_image_18 rfl (lv_at hl 0 rfl) ?_
        refine lv_aload_n hx hb dX11_image_19 rfl (lv_at hl 1 rfl) ?_
        refine va_get (D := D) (ci := 11) (C := RX11) (T := TX11) (N := 16) hx hb hts qX11_image_X11 hown hK hP 0 rfl rfl 1 (by decide) (hts _ kX11_image_4) (fun _ h9 => h9) rfl dX11_image_20 ?_
        refine lv_iload_n hx hb dX11_image_23 rfl (lv_at hl 0 rfl) ?_
        obtain ⟨i2, h⟩ := zz_i h
        refine va_iald hx hb hK hP 2 1 rfl rfl i2 dX11_image_24 ?_
        obtain ⟨i3, h⟩ := zz_i h
        refine va_iast hx hb hK hP hD hS 1 1 rfl rfl i3 dX11_image_25 (fun H locs hP hD hS => ?_)
        have hP : va_P D vwCl [(a_t, .inr (11, [.int (nI 0), .ref a_t_now, .ref a_t_kept, .int t_isKept, .ref a_t_text, .int t_length, .ref a_t_passing, .int t_at, .int t_fault, .int t_open, .int t_asked, .int t_byGun, .int t_prizeMost, .ref a_t_order, .ref a_t_times, .int t_listed])), (a_t_kept, .inl (cI, 1562, .inl (upd t_kept_l7 (v1_7).toNatClampNeg (t_now (v1_7).toNatClampNeg)))), (a_t_now, .inl (cI, 1562, .inl t_now))] H := hP
        have hD : va_D A [(a_t, .inr (11, [.int (nI 0), .ref a_t_now, .ref a_t_kept, .int t_isKept, .ref a_t_text, .int t_length, .ref a_t_passing, .int t_at, .int t_fault, .int t_open, .int t_asked, .int t_byGun, .int t_prizeMost, .ref a_t_order, .ref a_t_times, .int t_listed])), (a_t_kept, .inl (cI, 1562, .inl (upd t_kept_l7 (v1_7).toNatClampNeg (t_now (v1_7).toNatClampNeg)))), (a_t_now, .inl (cI, 1562, .inl t_now))] := hD
        refine lv_iinc (v := (v1_7 + (nI 1))) (lv' := [(1, .int (v1_7 + (nI 1))), (0, .ref a_t)]) hx hb dX11_image_26 hl (k := 0) rfl rfl (by decide) rfl (fun ls hl => ?_)
        refine lv_goto (tgt := 7) hx hb dX11_image_29 (by decide) ?_
        exact ih7 (v1_7 + (nI 1)) (upd t_kept_l7 (v1_7).toNatClampNeg (t_now (v1_7).toNatClampNeg)) _ _ _ h (hP.sub [0, 1, 2] rfl) (hD.sub [0, 1, 2] rfl rfl) hS (lv_sub hl [0, 1] rfl)
  exact L7 N (nI 0) t_kept _ _ _ h hP hD hS hl
/-! RunDeskModel.back -/
theorem dX11_back_0 : decode cX11_back 0 = .ok (.aload_n 0, 1) := by decide +kernel
theorem dX11_back_1 : decode cX11_back 1 = .ok (.aload_n 0, 1) := by decide +kernel
theorem dX11_back_2 : decode cX11_back 2 = .ok (.getfield 207, 3) := by decide +kernel
theorem dX11_back_5 : decode cX11_back 5 = .ok (.ifCond .eq 7, 3) := by decide +kernel
theorem dX11_back_8 : decode cX11_back 8 = .ok (.iconst 0, 1) := by decide +kernel
theorem dX11_back_9 : decode cX11_back 9 = .ok (.goto 4, 3) := by decide +kernel
theorem dX11_back_12 : decode cX11_back 12 = .ok (.iconst 1, 1) := by decide +kernel
theorem dX11_back_13 : decode cX11_back 13 = .ok (.putfield 37, 3) := by decide +kernel
theorem dX11_back_16 : decode cX11_back 16 = .ok (.iconst 0, 1) := by decide +kernel
theorem dX11_back_17 : decode cX11_back 17 = .ok (.istore_n 1, 1) := by decide +kernel
theorem dX11_back_18 : decode cX11_back 18 = .ok (.iload_n 1, 1) := by decide +kernel
theorem dX11_back_19 : decode cX11_back 19 = .ok (.sipush 1562, 3) := by decide +kernel
theorem dX11_back_22 : decode cX11_back 22 = .ok (.if_icmp .ge 28, 3) := by decide +kernel
theorem dX11_back_25 : decode cX11_back 25 = .ok (.aload_n 0, 1) := by decide +kernel
theorem dX11_back_26 : decode cX11_back 26 = .ok (.getfield 207, 3) := by decide +kernel
theorem dX11_back_29 : decode cX11_back 29 = .ok (.ifCond .eq 21, 3) := by decide +kernel
theorem dX11_back_32 : decode cX11_back 32 = .ok (.aload_n 0, 1) := by decide +kernel
theorem dX11_back_33 : decode cX11_back 33 = .ok (.getfield 9, 3) := by decide +kernel
theorem dX11_back_36 : decode cX11_back 36 = .ok (.iload_n 1, 1) := by decide +kernel
theorem dX11_back_37 : decode cX11_back 37 = .ok (.aload_n 0, 1) := by decide +kernel
theorem dX11_back_38 : decode cX11_back 38 = .ok (.getfield 13, 3) := by decide +kernel
theorem dX11_back_41 : decode cX11_back 41 = .ok (.iload_n 1, 1) := by decide +kernel
theorem dX11_back_42 : decode cX11_back 42 = .ok (.iaload, 1) := by decide +kernel
theorem dX11_back_43 : decode cX11_back 43 = .ok (.iastore, 1) := by decide +kernel
theorem dX11_back_44 : decode cX11_back 44 = .ok (.iinc 1 1, 3) := by decide +kernel
theorem dX11_back_47 : decode cX11_back 47 = .ok (.goto (-29), 3) := by decide +kernel
theorem dX11_back_50 : decode cX11_back 50 = .ok (.return_, 1) := by decide +kernel
theorem kX11_back_0 : (.fieldLink RX11 207 "RunDeskModel" "isKept" "Z" : Cond) ∈ wsX11_back := List.mem_of_getElem? (i := 1) (by decide +kernel)
theorem qX11_back_X11 : ∀ w ∈ wsX110, w ∈ wsX11_back := fun _ h => List.mem_cons_of_mem _ (List.mem_append_right _ (h))
theorem kX11_back_2 : (.fieldLink RX11 37 "RunDeskModel" "thrown" "I" : Cond) ∈ wsX11_back := List.mem_of_getElem? (i := 2) (by decide +kernel)
theorem kX11_back_3 : (.fieldLink RX11 9 "RunDeskModel" "now" "[I" : Cond) ∈ wsX11_back := List.mem_of_getElem? (i := 3) (by decide +kernel)
theorem kX11_back_4 : (.fieldLink RX11 13 "RunDeskModel" "kept" "[I" : Cond) ∈ wsX11_back := List.mem_of_getElem? (i := 4) (by decide +kernel)
set_option maxHeartbeats 4000000 in
set_option maxRecDepth 100000 in
theorem mX11_back (l : Launch) (D : va_G) (cB cI cZ : ClassId) (a_t : Nat) (a_t_now : Nat) (a_t_kept : Nat) (a_t_text : Nat) (a_t_passing : Nat) (a_t_order : Nat) (a_t_times : Nat) (t_thrown : Int32) (t_isKept : Int32) (t_length : Int32) (t_at : Int32) (t_fault : Int32) (t_open : Int32) (t_asked : Int32) (t_byGun : Int32) (t_prizeMost : Int32) (t_listed : Int32) (t_kept : Nat → Int32) (t_now : Nat → Int32) (sz : Nat) (N : Nat) (t_thrown' : Int32) (t_now' : Nat → Int32) (h : fX11_back N t_isKept t_thrown t_kept t_now = some (t_thrown', t_now')) : Met l yX11_back wsX11_back ({ frames := 0, cells := 0, slots := 0, locals := 0 } : Room) (va_Pc [.ref a_t] (zPre D (zT cB cI cZ) [(a_t, .inr (11, [.int t_thrown, .ref a_t_now, .ref a_t_kept, .int t_isKept, .ref a_t_text, .int t_length, .ref a_t_passing, .int t_at, .int t_fault, .int t_open, .int t_asked, .int t_byGun, .int t_prizeMost, .ref a_t_order, .ref a_t_times, .int t_listed])), (a_t_kept, .inl (cI, 1562, .inl t_kept)), (a_t_now, .inl (cI, 1562, .inl t_now))] sz)) (zQv D (zT cB cI cZ) [(a_t, .inr (11, [.int t_thrown', .ref a_t_now, .ref a_t_kept, .int t_isKept, .ref a_t_text, .int t_length, .ref a_t_passing, .int t_at, .int t_fault, .int t_open, .int t_asked, .int t_byGun, .int t_prizeMost, .ref a_t_order, .ref a_t_times, .int t_listed])), (a_t_kept, .inl (cI, 1562, .inl t_kept)), (a_t_now, .inl (cI, 1562, .inl t_now'))] (va_A [(a_t, .inr (11, [.int t_thrown, .ref a_t_now, .ref a_t_kept, .int t_isKept, .ref a_t_text, .int t_length, .ref a_t_passing, .int t_at, .int t_fault, .int t_open, .int t_asked, .int t_byGun, .int t_prizeMost, .ref a_t_order, .ref a_t_times, .int t_listed])), (a_t_kept, .inl (cI, 1562, .inl t_kept)), (a_t_now, .inl (cI, 1562, .inl t_now))] sz)) 0 0 (va_A [(a_t, .inr (11, [.int t_thrown, .ref a_t_now, .ref a_t_kept, .int t_isKept, .ref a_t_text, .int t_length, .ref a_t_passing, .int t_at, .int t_fault, .int t_open, .int t_asked, .int t_byGun, .int t_prizeMost, .ref a_t_order, .ref a_t_times, .int t_listed])), (a_t_kept, .inl (cI, 1562, .inl t_kept)), (a_t_now, .inl (cI, 1562, .inl t_now))] sz) := by
  refine Met.ofW (cc := cX11_back) (maxL := 2) (ret := none) (by decide) rfl ?_
  intro p e s m args below meth c s₁ B hml hv
  obtain ⟨rfl, hsz, hP, hK, hN, hZ, hD0⟩ := hv
  have hx := B.exec
  have hb := B.bytes
  have hr := B.returns
  have hts := atoms_spec (ws := wsX11_back) B.pre
  have hown : s.vm.findClass RX11 = some m.cls := findClass_of_methodNamed B.named
  have hlocks := B.notSynchronized
  subst hsz
  have hD := hD0.self (sz := s.heap.size)
  generalize hAe : va_A [(a_t, .inr (11, [.int t_thrown, .ref a_t_now, .ref a_t_kept, .int t_isKept, .ref a_t_text, .int t_length, .ref a_t_passing, .int t_at, .int t_fault, .int t_open, .int t_asked, .int t_byGun, .int t_prizeMost, .ref a_t_order, .ref a_t_times, .int t_listed])), (a_t_kept, .inl (cI, 1562, .inl t_kept)), (a_t_now, .inl (cI, 1562, .inl t_now))] s.heap.size = A at hD hZ ⊢
  have hA : ∀ q : Nat, s.heap.size ≤ q → A q := fun q h => by rw [← hAe]; exact Or.inr h
  have hS : va_S A s.heap s.heap [] := va_S.rf
  have hl := lv_entry ([.ref a_t]) (n := 2) (Nat.le_of_ble_eq_true rfl)
  rw [lg_entry_eq]
  generalize (lg_sl ([.ref a_t]) ++ List.replicate (2 - (lg_sl ([.ref a_t])).length) Slot.unset).toArray = ls at hl ⊢
  have hl : lv_has ls 2 [(0, .ref a_t)] := hl
  unfold fX11_back at h
  refine lv_aload_n hx hb dX11_back_0 rfl (lv_at hl 0 rfl) ?_
  refine lv_aload_n hx hb dX11_back_1 rfl (lv_at hl 0 rfl) ?_
  refine va_get (D := D) (ci := 11) (C := RX11) (T := TX11) (N := 16) hx hb hts qX11_back_X11 hown hK hP 0 rfl rfl 3 (by decide) (hts _ kX11_back_0) (fun _ h9 => h9) rfl dX11_back_2 ?_
  have J13 : ∀ (s1_j13 : Bool) (H : Heap) (locs : List Loc) (ls : Array Slot), fX11_back_J13 N t_isKept t_kept t_now s1_j13 = some (t_thrown', t_now') → va_P D vwCl [(a_t, .inr (11, [.int t_thrown, .ref a_t_now, .ref a_t_kept, .int t_isKept, .ref a_t_text, .int t_length, .ref a_t_passing, .int t_at, .int t_fault, .int t_open, .int t_asked, .int t_byGun, .int t_prizeMost, .ref a_t_order, .ref a_t_times, .int t_listed])), (a_t_kept, .inl (cI, 1562, .inl t_kept)), (a_t_now, .inl (cI, 1562, .inl t_now))] H → va_D A [(a_t, .inr (11, [.int t_thrown, .ref a_t_now, .ref a_t_kept, .int t_isKept, .ref a_t_text, .int t_length, .ref a_t_passing, .int t_at, .int t_fault, .int t_open, .int t_asked, .int t_byGun, .int t_prizeMost, .ref a_t_order, .ref a_t_times, .int t_listed])), (a_t_kept, .inl (cI, 1562, .inl t_kept)), (a_t_now, .inl (cI, 1562, .inl t_now))] → va_S A s.heap H locs → lv_has ls 2 [(0, .ref a_t)] → W p l e (headSpec wsX11_back ({ frames := 0, cells := 0, slots := 0, locals := 0 } : Room)).room s m #[Value.ref a_t] below meth c H locs 0 0 (MQ below (zQv D (zT cB cI cZ) [(a_t, .inr (11, [.int t_thrown', .ref a_t_now, .ref a_t_kept, .int t_isKept, .ref a_t_text, .int t_length, .ref a_t_passing, .int t_at, .int t_fault, .int t_open, .int t_asked, .int t_byGun, .int t_prizeMost, .ref a_t_order, .ref a_t_times, .int t_listed])), (a_t_kept, .inl (cI, 1562, .inl t_kept)), (a_t_now, .inl (cI, 1562, .inl t_now'))] A) #[Value.ref a_t] s 0 0 A) (F0 m 13 ls [.int (zb s1_j13), .ref a_t]) := by
    intro s1_j13 H locs ls h hP hD hS hl
    unfold fX11_back_J13 at h
    refine va_put (D := D) (ci := 11) (ty := .int) (C := RX11) (T := TX11) (N := 16) hx hb hts qX11_back_X11 tyX11 tyX11_ok nmX11 hown hK hP hD hS 0 rfl rfl 0 (by decide) (hts _ kX11_back_2) (fun _ h9 => h9) rfl (by decide +kernel) rfl (by first | rfl | exact zz_fit) (Nat.le_of_ble_eq_true rfl) dX11_back_13 (fun H locs hP hD hS => ?_)
    have hP : va_P D vwCl [(a_t, .inr (11, [.int (zb s1_j13), .ref a_t_now, .ref a_t_kept, .int t_isKept, .ref a_t_text, .int t_length, .ref a_t_passing, .int t_at, .int t_fault, .int t_open, .int t_asked, .int t_byGun, .int t_prizeMost, .ref a_t_order, .ref a_t_times, .int t_listed])), (a_t_kept, .inl (cI, 1562, .inl t_kept)), (a_t_now, .inl (cI, 1562, .inl t_now))] H := hP
    have hD : va_D A [(a_t, .inr (11, [.int (zb s1_j13), .ref a_t_now, .ref a_t_kept, .int t_isKept, .ref a_t_text, .int t_length, .ref a_t_passing, .int t_at, .int t_fault, .int t_open, .int t_asked, .int t_byGun, .int t_prizeMost, .ref a_t_order, .ref a_t_times, .int t_listed])), (a_t_kept, .inl (cI, 1562, .inl t_kept)), (a_t_now, .inl (cI, 1562, .inl t_now))] := hD
    refine lv_iconst (v := (nI 0)) hx hb dX11_back_16 rfl ?_
    refine lv_istore_n (lv' := [(1, .int (nI 0)), (0, .ref a_t)]) hx hb dX11_back_17 rfl hl (by decide) rfl (fun ls hl => ?_)
    have X18_50 : ∀ (v1_18 : Int32) (t_now_l18 : Nat → Int32) (H : Heap) (locs : List Loc) (ls : Array Slot), some ((zb s1_j13), t_now_l18) = some (t_thrown', t_now') → va_P D vwCl [(a_t, .inr (11, [.int (zb s1_j13), .ref a_t_now, .ref a_t_kept, .int t_isKept, .ref a_t_text, .int t_length, .ref a_t_passing, .int t_at, .int t_fault, .int t_open, .int t_asked, .int t_byGun, .int t_prizeMost, .ref a_t_order, .ref a_t_times, .int t_listed])), (a_t_kept, .inl (cI, 1562, .inl t_kept)), (a_t_now, .inl (cI, 1562, .inl t_now_l18))] H → va_D A [(a_t, .inr (11, [.int (zb s1_j13), .ref a_t_now, .ref a_t_kept, .int t_isKept, .ref a_t_text, .int t_length, .ref a_t_passing, .int t_at, .int t_fault, .int t_open, .int t_asked, .int t_byGun, .int t_prizeMost, .ref a_t_order, .ref a_t_times, .int t_listed])), (a_t_kept, .inl (cI, 1562, .inl t_kept)), (a_t_now, .inl (cI, 1562, .inl t_now_l18))] → va_S A s.heap H locs → lv_has ls 2 [(1, .int v1_18), (0, .ref a_t)] → W p l e (headSpec wsX11_back ({ frames := 0, cells := 0, slots := 0, locals := 0 } : Room)).room s m #[Value.ref a_t] below meth c H locs 0 0 (MQ below (zQv D (zT cB cI cZ) [(a_t, .inr (11, [.int t_thrown', .ref a_t_now, .ref a_t_kept, .int t_isKept, .ref a_t_text, .int t_length, .ref a_t_passing, .int t_at, .int t_fault, .int t_open, .int t_asked, .int t_byGun, .int t_prizeMost, .ref a_t_order, .ref a_t_times, .int t_listed])), (a_t_kept, .inl (cI, 1562, .inl t_kept)), (a_t_now, .inl (cI, 1562, .inl t_now'))] A) #[Value.ref a_t] s 0 0 A) (F0 m 50 ls []) := by
      intro v1_18 t_now_l18 H locs ls h hP hD hS hl
      obtain ⟨j0_, g_⟩ := Prod.mk.inj (Option.some.inj h)
      have j1_ := g_
      subst j0_
      subst j1_
      exact W.vret hx hb hr (fun t ht hW => ⟨⟨(), rfl, trivial, zPost.of hP hD hK ht hW [0, 1, 2] rfl rfl rfl⟩, hS.F ht⟩) hS.2.2 dX11_back_50
    have L18 : ∀ (n : Nat) (v1_18 : Int32) (t_now_l18 : Nat → Int32) (H : Heap) (locs : List Loc) (ls : Array Slot), fX11_back_L18 t_isKept t_kept (fun (v1_18 : Int32) (t_now_l18 : Nat → Int32) => some ((zb s1_j13), t_now_l18)) n v1_18 t_now_l18 = some (t_thrown', t_now') → va_P D vwCl [(a_t, .inr (11, [.int (zb s1_j13), .ref a_t_now, .ref a_t_kept, .int t_isKept, .ref a_t_text, .int t_length, .ref a_t_passing, .int t_at, .int t_fault, .int t_open, .int t_asked, .int t_byGun, .int t_prizeMost, .ref a_t_order, .ref a_t_times, .int t_listed])), (a_t_kept, .inl (cI, 1562, .inl t_kept)), (a_t_now, .inl (cI, 1562, .inl t_now_l18))] H → va_D A [(a_t, .inr (11, [.int (zb s1_j13), .ref a_t_now, .ref a_t_kept, .int t_isKept, .ref a_t_text, .int t_length, .ref a_t_passing, .int t_at, .int t_fault, .int t_open, .int t_asked, .int t_byGun, .int t_prizeMost, .ref a_t_order, .ref a_t_times, .int t_listed])), (a_t_kept, .inl (cI, 1562, .inl t_kept)), (a_t_now, .inl (cI, 1562, .inl t_now_l18))] → va_S A s.heap H locs → lv_has ls 2 [(1, .int v1_18), (0, .ref a_t)] → W p l e (headSpec wsX11_back ({ frames := 0, cells := 0, slots := 0, locals := 0 } : Room)).room s m #[Value.ref a_t] below meth c H locs 0 0 (MQ below (zQv D (zT cB cI cZ) [(a_t, .inr (11, [.int t_thrown', .ref a_t_now, .ref a_t_kept, .int t_isKept, .ref a_t_text, .int t_length, .ref a_t_passing, .int t_at, .int t_fault, .int t_open, .int t_asked, .int t_byGun, .int t_prizeMost, .ref a_t_order, .ref a_t_times, .int t_listed])), (a_t_kept, .inl (cI, 1562, .inl t_kept)), (a_t_now, .inl (cI, 1562, .inl t_now'))] A) #[Value.ref a_t] s 0 0 A) (F0 m 18 ls []) := by
      intro n
      induction n with
      | zero => intro _ _ H locs ls h hP hD hS hl; cases h
      | succ n18 ih18 =>
        intro v1_18 t_now_l18 H locs ls h hP hD hS hl
        rw [fX11_back_L18.eq_2] at h
        refine lv_iload_n hx hb dX11_back_18 rfl (lv_at hl 0 rfl) ?_
        refine lv_sipush (v := (nI 1562)) hx hb dX11_back_19 rfl ?_
        refine lv_icmp_ge (tgt := 50) hx hb dX11_back_22 (by decide) (fun c1 => ?_) (fun c1 => ?_)
        · have h := zz_t h c1
          exact X18_50 v1_18 t_now_l18 _ _ _ h (hP.sub [0, 1, 2] rfl) (hD.sub [0, 1, 2] rfl rfl) hS (lv_sub hl [0, 1] rfl)
        · have h := zz_f h c1
          refine lv_aload_n hx hb dX11_back_25 rfl (lv_at hl 1 rfl) ?_
          refine va_get (D := D) (ci := 11) (C := RX11) (T := TX11) (N := 16) hx hb hts qX11_back_X11 hown hK hP 0 rfl rfl 3 (by decide) (hts _ kX11_back_0) (fun _ h9 => h9) rfl dX11_back_26 ?_
          refine lv_if_eq (tgt := 50) hx hb dX11_back_29 (by decide) (fun c2 => ?_) (fun c2 => ?_)
          · have h := zz_t h c2
            exact X18_50 v1_18 t_now_l18 _ _ _ h (hP.sub [0, 1, 2] rfl) (hD.sub [0, 1, 2] rfl rfl) hS (lv_sub hl [0, 1] rfl)
          · have h := zz_f h c2
            refine lv_aload_n hx hb dX11_back_32 rfl (lv_at hl 1 rfl) ?_
            refine va_get (D := D) (ci := 11) (C := RX11) (T := TX11) (N := 16) hx hb hts qX11_back_X11 hown hK hP 0 rfl rfl 1 (by decide) (hts _ kX11_back_3) (fun _ h9 => h9) rfl dX11_back_33 ?_
            refine lv_iload_n hx hb dX11_back_36 rfl (lv_at hl 0 rfl) ?_
            refine lv_aload_n hx hb dX11_back_37 rfl (lv_at hl 1 rfl) ?_
            refine va_get (D := D) (ci := 11) (C := RX11) (T := TX11) (N := 16) hx hb hts qX11_back_X11 hown hK hP 0 rfl rfl 2 (by decide) (hts _ kX11_back_4) (fun _ h9 => h9) rfl dX11_back_38 ?_
            refine lv_iload_n hx hb dX11_back_41 rfl (lv_at hl 0 rfl) ?_
            obtain ⟨i3, h⟩ := zz_i h
            refine va_iald hx hb hK hP 1 1 rfl rfl i3 dX11_back_42 ?_
            obtain ⟨i4, h⟩ := zz_i h
            refine va_iast hx hb hK hP hD hS 2 1 rfl rfl i4 dX11_back_43 (fun H locs hP hD hS => ?_)
            have hP : va_P D vwCl [(a_t, .inr (11, [.int (zb s1_j13), .ref a_t_now, .ref a_t_kept, .int t_isKept, .ref a_t_text, .int t_length, .ref a_t_passing, .int t_at, .int t_fault, .int t_open, .int t_asked, .int t_byGun, .int t_prizeMost, .ref a_t_order, .ref a_t_times, .int t_listed])), (a_t_kept, .inl (cI, 1562, .inl t_kept)), (a_t_now, .inl (cI, 1562, .inl (upd t_now_l18 (v1_18).toNatClampNeg (t_kept (v1_18).toNatClampNeg))))] H := hP
            have hD : va_D A [(a_t, .inr (11, [.int (zb s1_j13), .ref a_t_now, .ref a_t_kept, .int t_isKept, .ref a_t_text, .int t_length, .ref a_t_passing, .int t_at, .int t_fault, .int t_open, .int t_asked, .int t_byGun, .int t_prizeMost, .ref a_t_order, .ref a_t_times, .int t_listed])), (a_t_kept, .inl (cI, 1562, .inl t_kept)), (a_t_now, .inl (cI, 1562, .inl (upd t_now_l18 (v1_18).toNatClampNeg (t_kept (v1_18).toNatClampNeg))))] := hD
            refine lv_iinc (v := (v1_18 + (nI 1))) (lv' := [(1, .int (v1_18 + (nI 1))), (0, .ref a_t)]) hx hb dX11_back_44 hl (k := 0) rfl rfl (by decide) rfl (fun ls hl => ?_)
            refine lv_goto (tgt := 18) hx hb dX11_back_47 (by decide) ?_
            exact ih18 (v1_18 + (nI 1)) (upd t_now_l18 (v1_18).toNatClampNeg (t_kept (v1_18).toNatClampNeg)) _ _ _ h (hP.sub [0, 1, 2] rfl) (hD.sub [0, 1, 2] rfl rfl) hS (lv_sub hl [0, 1] rfl)
    exact L18 N (nI 0) t_now _ _ _ h hP hD hS hl
  refine lv_if_eq (tgt := 12) hx hb dX11_back_5 (by decide) (fun c5 => ?_) (fun c5 => ?_)
  · have h := zz_t h c5
    refine lv_iconst (v := (nI 1)) hx hb dX11_back_12 rfl ?_
    exact J13 true _ _ _ h (hP.sub [0, 1, 2] rfl) (hD.sub [0, 1, 2] rfl rfl) hS (lv_sub hl [0] rfl)
  · have h := zz_f h c5
    refine lv_iconst (v := (nI 0)) hx hb dX11_back_8 rfl ?_
    refine lv_goto (tgt := 13) hx hb dX11_back_9 (by decide) ?_
    exact J13 false _ _ _ h (hP.sub [0, 1, 2] rfl) (hD.sub [0, 1, 2] rfl rfl) hS (lv_sub hl [0] rfl)
