theorem dX11_unit_0 : decode cX11_unit 0 = .ok (.aload_n 0, 1) := by decide +kernel
theorem dX11_unit_1 : decode cX11_unit 1 = .ok (.invokevirtual 154, 3) := by decide +kernel
theorem dX11_unit_4 : decode cX11_unit 4 = .ok (.istore_n 1, 1) := by decide +kernel
theorem dX11_unit_5 : decode cX11_unit 5 = .ok (.iload_n 1, 1) := by decide +kernel
theorem dX11_unit_6 : decode cX11_unit 6 = .ok (.bipush 40, 2) := by decide +kernel
theorem dX11_unit_8 : decode cX11_unit 8 = .ok (.if_icmp .ne 61, 3) := by decide +kernel
theorem dX11_unit_11 : decode cX11_unit 11 = .ok (.aload_n 0, 1) := by decide +kernel
theorem dX11_unit_12 : decode cX11_unit 12 = .ok (.getfield 167, 3) := by decide +kernel
theorem dX11_unit_15 : decode cX11_unit 15 = .ok (.bipush 8, 2) := by decide +kernel
theorem dX11_unit_17 : decode cX11_unit 17 = .ok (.if_icmp .ne 9, 3) := by decide +kernel
theorem dX11_unit_20 : decode cX11_unit 20 = .ok (.aload_n 0, 1) := by decide +kernel
theorem dX11_unit_21 : decode cX11_unit 21 = .ok (.invokevirtual 160, 3) := by decide +kernel
theorem dX11_unit_24 : decode cX11_unit 24 = .ok (.iconst 0, 1) := by decide +kernel
theorem dX11_unit_25 : decode cX11_unit 25 = .ok (.ireturn, 1) := by decide +kernel
theorem dX11_unit_26 : decode cX11_unit 26 = .ok (.aload_n 0, 1) := by decide +kernel
theorem dX11_unit_27 : decode cX11_unit 27 = .ok (.dup, 1) := by decide +kernel
theorem dX11_unit_28 : decode cX11_unit 28 = .ok (.getfield 167, 3) := by decide +kernel
theorem dX11_unit_31 : decode cX11_unit 31 = .ok (.iconst 1, 1) := by decide +kernel
theorem dX11_unit_32 : decode cX11_unit 32 = .ok (.iadd, 1) := by decide +kernel
theorem dX11_unit_33 : decode cX11_unit 33 = .ok (.putfield 167, 3) := by decide +kernel
theorem dX11_unit_36 : decode cX11_unit 36 = .ok (.aload_n 0, 1) := by decide +kernel
theorem dX11_unit_37 : decode cX11_unit 37 = .ok (.dup, 1) := by decide +kernel
theorem dX11_unit_38 : decode cX11_unit 38 = .ok (.getfield 148, 3) := by decide +kernel
theorem dX11_unit_41 : decode cX11_unit 41 = .ok (.iconst 1, 1) := by decide +kernel
theorem dX11_unit_42 : decode cX11_unit 42 = .ok (.iadd, 1) := by decide +kernel
theorem dX11_unit_43 : decode cX11_unit 43 = .ok (.putfield 148, 3) := by decide +kernel
theorem dX11_unit_46 : decode cX11_unit 46 = .ok (.aload_n 0, 1) := by decide +kernel
theorem dX11_unit_47 : decode cX11_unit 47 = .ok (.invokevirtual 170, 3) := by decide +kernel
theorem dX11_unit_50 : decode cX11_unit 50 = .ok (.istore_n 2, 1) := by decide +kernel
theorem dX11_unit_51 : decode cX11_unit 51 = .ok (.aload_n 0, 1) := by decide +kernel
theorem dX11_unit_52 : decode cX11_unit 52 = .ok (.bipush 41, 2) := by decide +kernel
theorem dX11_unit_54 : decode cX11_unit 54 = .ok (.invokevirtual 173, 3) := by decide +kernel
theorem dX11_unit_57 : decode cX11_unit 57 = .ok (.aload_n 0, 1) := by decide +kernel
theorem dX11_unit_58 : decode cX11_unit 58 = .ok (.dup, 1) := by decide +kernel
theorem dX11_unit_59 : decode cX11_unit 59 = .ok (.getfield 167, 3) := by decide +kernel
theorem dX11_unit_62 : decode cX11_unit 62 = .ok (.iconst 1, 1) := by decide +kernel
theorem dX11_unit_63 : decode cX11_unit 63 = .ok (.isub, 1) := by decide +kernel
theorem dX11_unit_64 : decode cX11_unit 64 = .ok (.putfield 167, 3) := by decide +kernel
theorem dX11_unit_67 : decode cX11_unit 67 = .ok (.iload_n 2, 1) := by decide +kernel
theorem dX11_unit_68 : decode cX11_unit 68 = .ok (.ireturn, 1) := by decide +kernel
theorem dX11_unit_69 : decode cX11_unit 69 = .ok (.iload_n 1, 1) := by decide +kernel
theorem dX11_unit_70 : decode cX11_unit 70 = .ok (.bipush 115, 2) := by decide +kernel
theorem dX11_unit_72 : decode cX11_unit 72 = .ok (.if_icmp .ne 7, 3) := by decide +kernel
theorem dX11_unit_75 : decode cX11_unit 75 = .ok (.iconst 3, 1) := by decide +kernel
theorem dX11_unit_76 : decode cX11_unit 76 = .ok (.goto 44, 3) := by decide +kernel
theorem dX11_unit_79 : decode cX11_unit 79 = .ok (.iload_n 1, 1) := by decide +kernel
theorem dX11_unit_80 : decode cX11_unit 80 = .ok (.bipush 121, 2) := by decide +kernel
theorem dX11_unit_82 : decode cX11_unit 82 = .ok (.if_icmp .ne 7, 3) := by decide +kernel
theorem dX11_unit_85 : decode cX11_unit 85 = .ok (.iconst 2, 1) := by decide +kernel
theorem dX11_unit_86 : decode cX11_unit 86 = .ok (.goto 34, 3) := by decide +kernel
theorem dX11_unit_89 : decode cX11_unit 89 = .ok (.iload_n 1, 1) := by decide +kernel
theorem dX11_unit_90 : decode cX11_unit 90 = .ok (.bipush 116, 2) := by decide +kernel
theorem dX11_unit_92 : decode cX11_unit 92 = .ok (.if_icmp .ne 7, 3) := by decide +kernel
theorem dX11_unit_95 : decode cX11_unit 95 = .ok (.iconst 4, 1) := by decide +kernel
theorem dX11_unit_96 : decode cX11_unit 96 = .ok (.goto 24, 3) := by decide +kernel
theorem dX11_unit_99 : decode cX11_unit 99 = .ok (.iload_n 1, 1) := by decide +kernel
theorem dX11_unit_100 : decode cX11_unit 100 = .ok (.bipush 112, 2) := by decide +kernel
theorem dX11_unit_102 : decode cX11_unit 102 = .ok (.if_icmp .ne 7, 3) := by decide +kernel
theorem dX11_unit_105 : decode cX11_unit 105 = .ok (.iconst 5, 1) := by decide +kernel
theorem dX11_unit_106 : decode cX11_unit 106 = .ok (.goto 14, 3) := by decide +kernel
theorem dX11_unit_109 : decode cX11_unit 109 = .ok (.iload_n 1, 1) := by decide +kernel
theorem dX11_unit_110 : decode cX11_unit 110 = .ok (.bipush 107, 2) := by decide +kernel
theorem dX11_unit_112 : decode cX11_unit 112 = .ok (.if_icmp .ne 7, 3) := by decide +kernel
theorem dX11_unit_115 : decode cX11_unit 115 = .ok (.iconst 0, 1) := by decide +kernel
theorem dX11_unit_116 : decode cX11_unit 116 = .ok (.goto 4, 3) := by decide +kernel
theorem dX11_unit_119 : decode cX11_unit 119 = .ok (.iconst (-1), 1) := by decide +kernel
theorem dX11_unit_120 : decode cX11_unit 120 = .ok (.istore_n 2, 1) := by decide +kernel
theorem dX11_unit_121 : decode cX11_unit 121 = .ok (.iload_n 2, 1) := by decide +kernel
theorem dX11_unit_122 : decode cX11_unit 122 = .ok (.iconst (-1), 1) := by decide +kernel
theorem dX11_unit_123 : decode cX11_unit 123 = .ok (.if_icmp .ne 9, 3) := by decide +kernel
theorem dX11_unit_126 : decode cX11_unit 126 = .ok (.aload_n 0, 1) := by decide +kernel
theorem dX11_unit_127 : decode cX11_unit 127 = .ok (.invokevirtual 160, 3) := by decide +kernel
theorem dX11_unit_130 : decode cX11_unit 130 = .ok (.iconst 0, 1) := by decide +kernel
theorem dX11_unit_131 : decode cX11_unit 131 = .ok (.ireturn, 1) := by decide +kernel
theorem dX11_unit_132 : decode cX11_unit 132 = .ok (.aload_n 0, 1) := by decide +kernel
theorem dX11_unit_133 : decode cX11_unit 133 = .ok (.dup, 1) := by decide +kernel
theorem dX11_unit_134 : decode cX11_unit 134 = .ok (.getfield 148, 3) := by decide +kernel
theorem dX11_unit_137 : decode cX11_unit 137 = .ok (.iconst 1, 1) := by decide +kernel
theorem dX11_unit_138 : decode cX11_unit 138 = .ok (.iadd, 1) := by decide +kernel
theorem dX11_unit_139 : decode cX11_unit 139 = .ok (.putfield 148, 3) := by decide +kernel
theorem dX11_unit_142 : decode cX11_unit 142 = .ok (.aload_n 0, 1) := by decide +kernel
theorem dX11_unit_143 : decode cX11_unit 143 = .ok (.invokevirtual 154, 3) := by decide +kernel
theorem dX11_unit_146 : decode cX11_unit 146 = .ok (.istore_n 3, 1) := by decide +kernel
theorem dX11_unit_147 : decode cX11_unit 147 = .ok (.iload_n 3, 1) := by decide +kernel
theorem dX11_unit_148 : decode cX11_unit 148 = .ok (.bipush 61, 2) := by decide +kernel
theorem dX11_unit_150 : decode cX11_unit 150 = .ok (.if_icmp .eq 21, 3) := by decide +kernel
theorem dX11_unit_153 : decode cX11_unit 153 = .ok (.iload_n 3, 1) := by decide +kernel
theorem dX11_unit_154 : decode cX11_unit 154 = .ok (.bipush 60, 2) := by decide +kernel
theorem dX11_unit_156 : decode cX11_unit 156 = .ok (.if_icmp .eq 15, 3) := by decide +kernel
theorem dX11_unit_159 : decode cX11_unit 159 = .ok (.iload_n 3, 1) := by decide +kernel
theorem dX11_unit_160 : decode cX11_unit 160 = .ok (.bipush 62, 2) := by decide +kernel
theorem dX11_unit_162 : decode cX11_unit 162 = .ok (.if_icmp .eq 9, 3) := by decide +kernel
theorem dX11_unit_165 : decode cX11_unit 165 = .ok (.aload_n 0, 1) := by decide +kernel
theorem dX11_unit_166 : decode cX11_unit 166 = .ok (.invokevirtual 160, 3) := by decide +kernel
theorem dX11_unit_169 : decode cX11_unit 169 = .ok (.iconst 0, 1) := by decide +kernel
theorem dX11_unit_170 : decode cX11_unit 170 = .ok (.ireturn, 1) := by decide +kernel
theorem dX11_unit_171 : decode cX11_unit 171 = .ok (.aload_n 0, 1) := by decide +kernel
theorem dX11_unit_172 : decode cX11_unit 172 = .ok (.dup, 1) := by decide +kernel
theorem dX11_unit_173 : decode cX11_unit 173 = .ok (.getfield 148, 3) := by decide +kernel
theorem dX11_unit_176 : decode cX11_unit 176 = .ok (.iconst 1, 1) := by decide +kernel
theorem dX11_unit_177 : decode cX11_unit 177 = .ok (.iadd, 1) := by decide +kernel
theorem dX11_unit_178 : decode cX11_unit 178 = .ok (.putfield 148, 3) := by decide +kernel
theorem dX11_unit_181 : decode cX11_unit 181 = .ok (.aload_n 0, 1) := by decide +kernel
theorem dX11_unit_182 : decode cX11_unit 182 = .ok (.invokevirtual 176, 3) := by decide +kernel
theorem dX11_unit_185 : decode cX11_unit 185 = .ok (.istore 4, 2) := by decide +kernel
theorem dX11_unit_187 : decode cX11_unit 187 = .ok (.aload_n 0, 1) := by decide +kernel
theorem dX11_unit_188 : decode cX11_unit 188 = .ok (.getfield 179, 3) := by decide +kernel
theorem dX11_unit_191 : decode cX11_unit 191 = .ok (.iconst (-1), 1) := by decide +kernel
theorem dX11_unit_192 : decode cX11_unit 192 = .ok (.if_icmp .ne 7, 3) := by decide +kernel
theorem dX11_unit_195 : decode cX11_unit 195 = .ok (.iconst 0, 1) := by decide +kernel
theorem dX11_unit_196 : decode cX11_unit 196 = .ok (.goto 12, 3) := by decide +kernel
theorem dX11_unit_199 : decode cX11_unit 199 = .ok (.aload_n 0, 1) := by decide +kernel
theorem dX11_unit_200 : decode cX11_unit 200 = .ok (.aload_n 0, 1) := by decide +kernel
theorem dX11_unit_201 : decode cX11_unit 201 = .ok (.getfield 179, 3) := by decide +kernel
theorem dX11_unit_204 : decode cX11_unit 204 = .ok (.iload_n 2, 1) := by decide +kernel
theorem dX11_unit_205 : decode cX11_unit 205 = .ok (.invokevirtual 62, 3) := by decide +kernel
theorem dX11_unit_208 : decode cX11_unit 208 = .ok (.istore 5, 2) := by decide +kernel
theorem dX11_unit_210 : decode cX11_unit 210 = .ok (.iload_n 3, 1) := by decide +kernel
theorem dX11_unit_211 : decode cX11_unit 211 = .ok (.bipush 61, 2) := by decide +kernel
theorem dX11_unit_213 : decode cX11_unit 213 = .ok (.if_icmp .ne 18, 3) := by decide +kernel
theorem dX11_unit_216 : decode cX11_unit 216 = .ok (.iload 5, 2) := by decide +kernel
theorem dX11_unit_218 : decode cX11_unit 218 = .ok (.iload 4, 2) := by decide +kernel
theorem dX11_unit_220 : decode cX11_unit 220 = .ok (.if_icmp .ne 7, 3) := by decide +kernel
theorem dX11_unit_223 : decode cX11_unit 223 = .ok (.iconst 1, 1) := by decide +kernel
theorem dX11_unit_224 : decode cX11_unit 224 = .ok (.goto 40, 3) := by decide +kernel
theorem dX11_unit_227 : decode cX11_unit 227 = .ok (.iconst 0, 1) := by decide +kernel
theorem dX11_unit_228 : decode cX11_unit 228 = .ok (.goto 36, 3) := by decide +kernel
theorem dX11_unit_231 : decode cX11_unit 231 = .ok (.iload_n 3, 1) := by decide +kernel
theorem dX11_unit_232 : decode cX11_unit 232 = .ok (.bipush 60, 2) := by decide +kernel
theorem dX11_unit_234 : decode cX11_unit 234 = .ok (.if_icmp .ne 18, 3) := by decide +kernel
theorem dX11_unit_237 : decode cX11_unit 237 = .ok (.iload 5, 2) := by decide +kernel
theorem dX11_unit_239 : decode cX11_unit 239 = .ok (.iload 4, 2) := by decide +kernel
theorem dX11_unit_241 : decode cX11_unit 241 = .ok (.if_icmp .ge 7, 3) := by decide +kernel
theorem dX11_unit_244 : decode cX11_unit 244 = .ok (.iconst 1, 1) := by decide +kernel
theorem dX11_unit_245 : decode cX11_unit 245 = .ok (.goto 19, 3) := by decide +kernel
theorem dX11_unit_248 : decode cX11_unit 248 = .ok (.iconst 0, 1) := by decide +kernel
theorem dX11_unit_249 : decode cX11_unit 249 = .ok (.goto 15, 3) := by decide +kernel
theorem dX11_unit_252 : decode cX11_unit 252 = .ok (.iload 5, 2) := by decide +kernel
theorem dX11_unit_254 : decode cX11_unit 254 = .ok (.iload 4, 2) := by decide +kernel
theorem dX11_unit_256 : decode cX11_unit 256 = .ok (.if_icmp .le 7, 3) := by decide +kernel
theorem dX11_unit_259 : decode cX11_unit 259 = .ok (.iconst 1, 1) := by decide +kernel
theorem dX11_unit_260 : decode cX11_unit 260 = .ok (.goto 4, 3) := by decide +kernel
theorem dX11_unit_263 : decode cX11_unit 263 = .ok (.iconst 0, 1) := by decide +kernel
theorem dX11_unit_264 : decode cX11_unit 264 = .ok (.ireturn, 1) := by decide +kernel
set_option maxRecDepth 20000 in
theorem ggX11_unit_X11_look : GoodIn wsX11_unit wsX11_look := goodIn_sub (List.forall_mem_cons.mpr ⟨List.mem_cons_of_mem _ (List.mem_append_left _ (List.mem_append_left _ (List.mem_of_getElem? (l := wsX11_unit_r1) (i := 7) rfl))), (List.forall_mem_append.mpr ⟨(List.forall_mem_cons.mpr ⟨List.mem_cons_of_mem _ (List.mem_append_left _ (List.mem_append_left _ (List.mem_of_getElem? (l := wsX11_unit_r1) (i := 1) rfl))), (List.forall_mem_cons.mpr ⟨List.mem_cons_of_mem _ (List.mem_append_left _ (List.mem_append_left _ (List.mem_of_getElem? (l := wsX11_unit_r1) (i := 8) rfl))), (List.forall_mem_cons.mpr ⟨List.mem_cons_of_mem _ (List.mem_append_left _ (List.mem_append_left _ (List.mem_of_getElem? (l := wsX11_unit_r1) (i := 9) rfl))), (fun _ h => nomatch h)⟩)⟩)⟩), (fun _ h => List.mem_cons_of_mem _ (List.mem_append_right _ (h)))⟩)⟩) (by decide +kernel)
set_option maxRecDepth 20000 in
theorem gX11_unit_X11_look : GoodIn wsX11_unit (wsV RX11 154 RX11 yX11_look wsX11_look) := goodIn_app (goodIn_of _ (by decide +kernel)) ggX11_unit_X11_look
set_option maxRecDepth 20000 in
theorem ggX11_unit_X11_wrong : GoodIn wsX11_unit wsX11_wrong := goodIn_sub (List.forall_mem_cons.mpr ⟨List.mem_cons_of_mem _ (List.mem_append_left _ (List.mem_append_left _ (List.mem_of_getElem? (l := wsX11_unit_r1) (i := 13) rfl))), (List.forall_mem_append.mpr ⟨(List.forall_mem_cons.mpr ⟨List.mem_cons_of_mem _ (List.mem_append_left _ (List.mem_append_left _ (List.mem_of_getElem? (l := wsX11_unit_r1) (i := 14) rfl))), (List.forall_mem_cons.mpr ⟨List.mem_cons_of_mem _ (List.mem_append_left _ (List.mem_append_left _ (List.mem_of_getElem? (l := wsX11_unit_r1) (i := 1) rfl))), (fun _ h => nomatch h)⟩)⟩), (fun _ h => List.mem_cons_of_mem _ (List.mem_append_right _ (h)))⟩)⟩) (by decide +kernel)
set_option maxRecDepth 20000 in
theorem gX11_unit_X11_wrong : GoodIn wsX11_unit (wsV RX11 160 RX11 yX11_wrong wsX11_wrong) := goodIn_app (goodIn_of _ (by decide +kernel)) ggX11_unit_X11_wrong
set_option maxRecDepth 20000 in
theorem ggX11_unit_X11_tests : GoodIn wsX11_unit wsX11_tests := goodIn_sub (List.forall_mem_cons.mpr ⟨List.mem_cons_of_mem _ (List.mem_append_left _ (List.mem_append_right _ (List.mem_of_getElem? (l := wsX11_unit_r2) (i := 18) rfl))), (List.forall_mem_append.mpr ⟨(List.forall_mem_append.mpr ⟨(List.forall_mem_cons.mpr ⟨List.mem_cons_of_mem _ (List.mem_append_left _ (List.mem_append_left _ (List.mem_of_getElem? (l := wsX11_unit_r1) (i := 1) rfl))), (List.forall_mem_cons.mpr ⟨List.mem_cons_of_mem _ (List.mem_append_left _ (List.mem_append_right _ (List.mem_of_getElem? (l := wsX11_unit_r2) (i := 19) rfl))), (List.forall_mem_cons.mpr ⟨List.mem_cons_of_mem _ (List.mem_append_left _ (List.mem_append_right _ (List.mem_of_getElem? (l := wsX11_unit_r2) (i := 20) rfl))), (List.forall_mem_cons.mpr ⟨List.mem_cons_of_mem _ (List.mem_append_left _ (List.mem_append_right _ (List.mem_of_getElem? (l := wsX11_unit_r2) (i := 21) rfl))), (List.forall_mem_cons.mpr ⟨List.mem_cons_of_mem _ (List.mem_append_left _ (List.mem_append_left _ (List.mem_of_getElem? (l := wsX11_unit_r1) (i := 6) rfl))), (List.forall_mem_cons.mpr ⟨List.mem_cons_of_mem _ (List.mem_append_left _ (List.mem_append_left _ (List.mem_of_getElem? (l := wsX11_unit_r1) (i := 22) rfl))), (List.forall_mem_cons.mpr ⟨List.mem_cons_of_mem _ (List.mem_append_left _ (List.mem_append_left _ (List.mem_of_getElem? (l := wsX11_unit_r1) (i := 23) rfl))), (List.forall_mem_cons.mpr ⟨List.mem_cons_of_mem _ (List.mem_append_left _ (List.mem_append_right _ (List.mem_of_getElem? (l := wsX11_unit_r2) (i := 0) rfl))), (List.forall_mem_cons.mpr ⟨List.mem_cons_of_mem _ (List.mem_append_left _ (List.mem_append_right _ (List.mem_of_getElem? (l := wsX11_unit_r2) (i := 1) rfl))), (List.forall_mem_cons.mpr ⟨List.mem_cons_of_mem _ (List.mem_append_left _ (List.mem_append_left _ (List.mem_of_getElem? (l := wsX11_unit_r1) (i := 14) rfl))), (List.forall_mem_cons.mpr ⟨List.mem_cons_of_mem _ (List.mem_append_left _ (List.mem_append_left _ (List.mem_of_getElem? (l := wsX11_unit_r1) (i := 3) rfl))), (List.forall_mem_cons.mpr ⟨List.mem_cons_of_mem _ (List.mem_append_left _ (List.mem_append_left _ (List.mem_of_getElem? (l := wsX11_unit_r1) (i := 4) rfl))), (List.forall_mem_cons.mpr ⟨List.mem_cons_of_mem _ (List.mem_append_left _ (List.mem_append_left _ (List.mem_of_getElem? (l := wsX11_unit_r1) (i := 5) rfl))), (List.forall_mem_cons.mpr ⟨List.mem_cons_of_mem _ (List.mem_append_left _ (List.mem_append_left _ (List.mem_of_getElem? (l := wsX11_unit_r1) (i := 7) rfl))), (List.forall_mem_cons.mpr ⟨List.mem_cons_of_mem _ (List.mem_append_left _ (List.mem_append_left _ (List.mem_of_getElem? (l := wsX11_unit_r1) (i := 8) rfl))), (List.forall_mem_cons.mpr ⟨List.mem_cons_of_mem _ (List.mem_append_left _ (List.mem_append_left _ (List.mem_of_getElem? (l := wsX11_unit_r1) (i := 9) rfl))), (List.forall_mem_cons.mpr ⟨List.mem_cons_of_mem _ (List.mem_append_left _ (List.mem_append_right _ (List.mem_of_getElem? (l := wsX11_unit_r2) (i := 14) rfl))), (List.forall_mem_cons.mpr ⟨List.mem_cons_of_mem _ (List.mem_append_left _ (List.mem_append_right _ (List.mem_of_getElem? (l := wsX11_unit_r2) (i := 15) rfl))), (List.forall_mem_cons.mpr ⟨List.mem_cons_of_mem _ (List.mem_append_left _ (List.mem_append_right _ (List.mem_of_getElem? (l := wsX11_unit_r2) (i := 16) rfl))), (List.forall_mem_cons.mpr ⟨List.mem_cons_of_mem _ (List.mem_append_left _ (List.mem_append_right _ (List.mem_of_getElem? (l := wsX11_unit_r2) (i := 17) rfl))), (List.forall_mem_cons.mpr ⟨List.mem_cons_self, (List.forall_mem_cons.mpr ⟨List.mem_cons_of_mem _ (List.mem_append_left _ (List.mem_append_left _ (List.mem_of_getElem? (l := wsX11_unit_r1) (i := 0) rfl))), (List.forall_mem_cons.mpr ⟨List.mem_cons_of_mem _ (List.mem_append_left _ (List.mem_append_left _ (List.mem_of_getElem? (l := wsX11_unit_r1) (i := 2) rfl))), (List.forall_mem_cons.mpr ⟨List.mem_cons_of_mem _ (List.mem_append_left _ (List.mem_append_left _ (List.mem_of_getElem? (l := wsX11_unit_r1) (i := 10) rfl))), (fun _ h => nomatch h)⟩)⟩)⟩)⟩)⟩)⟩)⟩)⟩)⟩)⟩)⟩)⟩)⟩)⟩)⟩)⟩)⟩)⟩)⟩)⟩)⟩)⟩)⟩)⟩), (List.forall_mem_cons.mpr ⟨List.mem_cons_of_mem _ (List.mem_append_left _ (List.mem_append_left _ (List.mem_of_getElem? (l := wsX11_unit_r1) (i := 11) rfl))), (List.forall_mem_cons.mpr ⟨List.mem_cons_of_mem _ (List.mem_append_left _ (List.mem_append_left _ (List.mem_of_getElem? (l := wsX11_unit_r1) (i := 12) rfl))), (List.forall_mem_cons.mpr ⟨List.mem_cons_of_mem _ (List.mem_append_left _ (List.mem_append_left _ (List.mem_of_getElem? (l := wsX11_unit_r1) (i := 13) rfl))), (List.forall_mem_cons.mpr ⟨List.mem_cons_of_mem _ (List.mem_append_left _ (List.mem_append_left _ (List.mem_of_getElem? (l := wsX11_unit_r1) (i := 15) rfl))), (List.forall_mem_cons.mpr ⟨List.mem_cons_of_mem _ (List.mem_append_left _ (List.mem_append_left _ (List.mem_of_getElem? (l := wsX11_unit_r1) (i := 16) rfl))), (List.forall_mem_cons.mpr ⟨List.mem_cons_of_mem _ (List.mem_append_left _ (List.mem_append_left _ (List.mem_of_getElem? (l := wsX11_unit_r1) (i := 17) rfl))), (List.forall_mem_cons.mpr ⟨List.mem_cons_of_mem _ (List.mem_append_left _ (List.mem_append_left _ (List.mem_of_getElem? (l := wsX11_unit_r1) (i := 18) rfl))), (List.forall_mem_cons.mpr ⟨List.mem_cons_of_mem _ (List.mem_append_left _ (List.mem_append_left _ (List.mem_of_getElem? (l := wsX11_unit_r1) (i := 19) rfl))), (List.forall_mem_cons.mpr ⟨List.mem_cons_of_mem _ (List.mem_append_left _ (List.mem_append_left _ (List.mem_of_getElem? (l := wsX11_unit_r1) (i := 20) rfl))), (List.forall_mem_cons.mpr ⟨List.mem_cons_of_mem _ (List.mem_append_left _ (List.mem_append_left _ (List.mem_of_getElem? (l := wsX11_unit_r1) (i := 21) rfl))), (List.forall_mem_cons.mpr ⟨List.mem_cons_of_mem _ (List.mem_append_left _ (List.mem_append_right _ (List.mem_of_getElem? (l := wsX11_unit_r2) (i := 2) rfl))), (List.forall_mem_cons.mpr ⟨List.mem_cons_of_mem _ (List.mem_append_left _ (List.mem_append_right _ (List.mem_of_getElem? (l := wsX11_unit_r2) (i := 3) rfl))), (List.forall_mem_cons.mpr ⟨List.mem_cons_of_mem _ (List.mem_append_left _ (List.mem_append_right _ (List.mem_of_getElem? (l := wsX11_unit_r2) (i := 4) rfl))), (List.forall_mem_cons.mpr ⟨List.mem_cons_of_mem _ (List.mem_append_left _ (List.mem_append_right _ (List.mem_of_getElem? (l := wsX11_unit_r2) (i := 5) rfl))), (List.forall_mem_cons.mpr ⟨List.mem_cons_of_mem _ (List.mem_append_left _ (List.mem_append_right _ (List.mem_of_getElem? (l := wsX11_unit_r2) (i := 6) rfl))), (List.forall_mem_cons.mpr ⟨List.mem_cons_of_mem _ (List.mem_append_left _ (List.mem_append_right _ (List.mem_of_getElem? (l := wsX11_unit_r2) (i := 7) rfl))), (List.forall_mem_cons.mpr ⟨List.mem_cons_of_mem _ (List.mem_append_left _ (List.mem_append_right _ (List.mem_of_getElem? (l := wsX11_unit_r2) (i := 8) rfl))), (List.forall_mem_cons.mpr ⟨List.mem_cons_of_mem _ (List.mem_append_left _ (List.mem_append_right _ (List.mem_of_getElem? (l := wsX11_unit_r2) (i := 9) rfl))), (List.forall_mem_cons.mpr ⟨List.mem_cons_of_mem _ (List.mem_append_left _ (List.mem_append_right _ (List.mem_of_getElem? (l := wsX11_unit_r2) (i := 10) rfl))), (List.forall_mem_cons.mpr ⟨List.mem_cons_of_mem _ (List.mem_append_left _ (List.mem_append_right _ (List.mem_of_getElem? (l := wsX11_unit_r2) (i := 11) rfl))), (List.forall_mem_cons.mpr ⟨List.mem_cons_of_mem _ (List.mem_append_left _ (List.mem_append_right _ (List.mem_of_getElem? (l := wsX11_unit_r2) (i := 12) rfl))), (List.forall_mem_cons.mpr ⟨List.mem_cons_of_mem _ (List.mem_append_left _ (List.mem_append_right _ (List.mem_of_getElem? (l := wsX11_unit_r2) (i := 13) rfl))), (fun _ h => nomatch h)⟩)⟩)⟩)⟩)⟩)⟩)⟩)⟩)⟩)⟩)⟩)⟩)⟩)⟩)⟩)⟩)⟩)⟩)⟩)⟩)⟩)⟩)⟩), (fun _ h => List.mem_cons_of_mem _ (List.mem_append_right _ (h)))⟩)⟩) (by decide +kernel)
set_option maxRecDepth 20000 in
theorem gX11_unit_X11_tests : GoodIn wsX11_unit (wsV RX11 170 RX11 yX11_tests wsX11_tests) := goodIn_app (goodIn_of _ (by decide +kernel)) ggX11_unit_X11_tests
set_option maxRecDepth 20000 in
theorem ggX11_unit_X11_sign : GoodIn wsX11_unit wsX11_sign := goodIn_sub (List.forall_mem_cons.mpr ⟨List.mem_cons_of_mem _ (List.mem_append_left _ (List.mem_append_left _ (List.mem_of_getElem? (l := wsX11_unit_r1) (i := 21) rfl))), (List.forall_mem_append.mpr ⟨(List.forall_mem_cons.mpr ⟨List.mem_cons_of_mem _ (List.mem_append_left _ (List.mem_append_left _ (List.mem_of_getElem? (l := wsX11_unit_r1) (i := 1) rfl))), (List.forall_mem_cons.mpr ⟨List.mem_cons_of_mem _ (List.mem_append_left _ (List.mem_append_left _ (List.mem_of_getElem? (l := wsX11_unit_r1) (i := 22) rfl))), (List.forall_mem_cons.mpr ⟨List.mem_cons_of_mem _ (List.mem_append_left _ (List.mem_append_left _ (List.mem_of_getElem? (l := wsX11_unit_r1) (i := 23) rfl))), (List.forall_mem_cons.mpr ⟨List.mem_cons_of_mem _ (List.mem_append_left _ (List.mem_append_right _ (List.mem_of_getElem? (l := wsX11_unit_r2) (i := 0) rfl))), (List.forall_mem_cons.mpr ⟨List.mem_cons_of_mem _ (List.mem_append_left _ (List.mem_append_left _ (List.mem_of_getElem? (l := wsX11_unit_r1) (i := 6) rfl))), (List.forall_mem_cons.mpr ⟨List.mem_cons_of_mem _ (List.mem_append_left _ (List.mem_append_right _ (List.mem_of_getElem? (l := wsX11_unit_r2) (i := 1) rfl))), (List.forall_mem_cons.mpr ⟨List.mem_cons_of_mem _ (List.mem_append_left _ (List.mem_append_left _ (List.mem_of_getElem? (l := wsX11_unit_r1) (i := 14) rfl))), (List.forall_mem_cons.mpr ⟨List.mem_cons_of_mem _ (List.mem_append_left _ (List.mem_append_left _ (List.mem_of_getElem? (l := wsX11_unit_r1) (i := 3) rfl))), (List.forall_mem_cons.mpr ⟨List.mem_cons_of_mem _ (List.mem_append_left _ (List.mem_append_left _ (List.mem_of_getElem? (l := wsX11_unit_r1) (i := 4) rfl))), (List.forall_mem_cons.mpr ⟨List.mem_cons_of_mem _ (List.mem_append_left _ (List.mem_append_left _ (List.mem_of_getElem? (l := wsX11_unit_r1) (i := 5) rfl))), (List.forall_mem_cons.mpr ⟨List.mem_cons_of_mem _ (List.mem_append_left _ (List.mem_append_left _ (List.mem_of_getElem? (l := wsX11_unit_r1) (i := 7) rfl))), (List.forall_mem_cons.mpr ⟨List.mem_cons_of_mem _ (List.mem_append_left _ (List.mem_append_left _ (List.mem_of_getElem? (l := wsX11_unit_r1) (i := 8) rfl))), (List.forall_mem_cons.mpr ⟨List.mem_cons_of_mem _ (List.mem_append_left _ (List.mem_append_left _ (List.mem_of_getElem? (l := wsX11_unit_r1) (i := 9) rfl))), (List.forall_mem_cons.mpr ⟨List.mem_cons_of_mem _ (List.mem_append_left _ (List.mem_append_left _ (List.mem_of_getElem? (l := wsX11_unit_r1) (i := 10) rfl))), (List.forall_mem_cons.mpr ⟨List.mem_cons_of_mem _ (List.mem_append_left _ (List.mem_append_left _ (List.mem_of_getElem? (l := wsX11_unit_r1) (i := 11) rfl))), (List.forall_mem_cons.mpr ⟨List.mem_cons_of_mem _ (List.mem_append_left _ (List.mem_append_left _ (List.mem_of_getElem? (l := wsX11_unit_r1) (i := 12) rfl))), (List.forall_mem_cons.mpr ⟨List.mem_cons_of_mem _ (List.mem_append_left _ (List.mem_append_left _ (List.mem_of_getElem? (l := wsX11_unit_r1) (i := 13) rfl))), (fun _ h => nomatch h)⟩)⟩)⟩)⟩)⟩)⟩)⟩)⟩)⟩)⟩)⟩)⟩)⟩)⟩)⟩)⟩)⟩), (fun _ h => List.mem_cons_of_mem _ (List.mem_append_right _ (h)))⟩)⟩) (by decide +kernel)
set_option maxRecDepth 20000 in
theorem gX11_unit_X11_sign : GoodIn wsX11_unit (wsV RX11 173 RX11 yX11_sign wsX11_sign) := goodIn_app (goodIn_of _ (by decide +kernel)) ggX11_unit_X11_sign
set_option maxRecDepth 20000 in
theorem ggX11_unit_X11_number : GoodIn wsX11_unit wsX11_number := goodIn_sub (List.forall_mem_cons.mpr ⟨List.mem_cons_of_mem _ (List.mem_append_left _ (List.mem_append_right _ (List.mem_of_getElem? (l := wsX11_unit_r2) (i := 5) rfl))), (List.forall_mem_append.mpr ⟨(List.forall_mem_cons.mpr ⟨List.mem_cons_of_mem _ (List.mem_append_left _ (List.mem_append_left _ (List.mem_of_getElem? (l := wsX11_unit_r1) (i := 1) rfl))), (List.forall_mem_cons.mpr ⟨List.mem_cons_of_mem _ (List.mem_append_left _ (List.mem_append_left _ (List.mem_of_getElem? (l := wsX11_unit_r1) (i := 8) rfl))), (List.forall_mem_cons.mpr ⟨List.mem_cons_of_mem _ (List.mem_append_left _ (List.mem_append_left _ (List.mem_of_getElem? (l := wsX11_unit_r1) (i := 9) rfl))), (List.forall_mem_cons.mpr ⟨List.mem_cons_of_mem _ (List.mem_append_left _ (List.mem_append_left _ (List.mem_of_getElem? (l := wsX11_unit_r1) (i := 3) rfl))), (List.forall_mem_cons.mpr ⟨List.mem_cons_of_mem _ (List.mem_append_left _ (List.mem_append_left _ (List.mem_of_getElem? (l := wsX11_unit_r1) (i := 4) rfl))), (List.forall_mem_cons.mpr ⟨List.mem_cons_of_mem _ (List.mem_append_left _ (List.mem_append_left _ (List.mem_of_getElem? (l := wsX11_unit_r1) (i := 5) rfl))), (List.forall_mem_cons.mpr ⟨List.mem_cons_of_mem _ (List.mem_append_left _ (List.mem_append_left _ (List.mem_of_getElem? (l := wsX11_unit_r1) (i := 6) rfl))), (List.forall_mem_cons.mpr ⟨List.mem_cons_of_mem _ (List.mem_append_left _ (List.mem_append_left _ (List.mem_of_getElem? (l := wsX11_unit_r1) (i := 7) rfl))), (List.forall_mem_cons.mpr ⟨List.mem_cons_of_mem _ (List.mem_append_left _ (List.mem_append_right _ (List.mem_of_getElem? (l := wsX11_unit_r2) (i := 6) rfl))), (List.forall_mem_cons.mpr ⟨List.mem_cons_of_mem _ (List.mem_append_left _ (List.mem_append_right _ (List.mem_of_getElem? (l := wsX11_unit_r2) (i := 7) rfl))), (List.forall_mem_cons.mpr ⟨List.mem_cons_of_mem _ (List.mem_append_left _ (List.mem_append_right _ (List.mem_of_getElem? (l := wsX11_unit_r2) (i := 8) rfl))), (List.forall_mem_cons.mpr ⟨List.mem_cons_of_mem _ (List.mem_append_left _ (List.mem_append_left _ (List.mem_of_getElem? (l := wsX11_unit_r1) (i := 10) rfl))), (List.forall_mem_cons.mpr ⟨List.mem_cons_of_mem _ (List.mem_append_left _ (List.mem_append_left _ (List.mem_of_getElem? (l := wsX11_unit_r1) (i := 11) rfl))), (List.forall_mem_cons.mpr ⟨List.mem_cons_of_mem _ (List.mem_append_left _ (List.mem_append_left _ (List.mem_of_getElem? (l := wsX11_unit_r1) (i := 12) rfl))), (List.forall_mem_cons.mpr ⟨List.mem_cons_of_mem _ (List.mem_append_left _ (List.mem_append_left _ (List.mem_of_getElem? (l := wsX11_unit_r1) (i := 13) rfl))), (List.forall_mem_cons.mpr ⟨List.mem_cons_of_mem _ (List.mem_append_left _ (List.mem_append_left _ (List.mem_of_getElem? (l := wsX11_unit_r1) (i := 14) rfl))), (fun _ h => nomatch h)⟩)⟩)⟩)⟩)⟩)⟩)⟩)⟩)⟩)⟩)⟩)⟩)⟩)⟩)⟩)⟩), (fun _ h => List.mem_cons_of_mem _ (List.mem_append_right _ (h)))⟩)⟩) (by decide +kernel)
set_option maxRecDepth 20000 in
theorem gX11_unit_X11_number : GoodIn wsX11_unit (wsV RX11 176 RX11 yX11_number wsX11_number) := goodIn_app (goodIn_of _ (by decide +kernel)) ggX11_unit_X11_number
set_option maxRecDepth 20000 in
theorem ggX11_unit_X11_of : GoodIn wsX11_unit wsX11_of := goodIn_sub (List.forall_mem_cons.mpr ⟨List.mem_cons_of_mem _ (List.mem_append_left _ (List.mem_append_right _ (List.mem_of_getElem? (l := wsX11_unit_r2) (i := 12) rfl))), (List.forall_mem_append.mpr ⟨(List.forall_mem_cons.mpr ⟨List.mem_cons_of_mem _ (List.mem_append_left _ (List.mem_append_right _ (List.mem_of_getElem? (l := wsX11_unit_r2) (i := 13) rfl))), (fun _ h => nomatch h)⟩), (fun _ h => List.mem_cons_of_mem _ (List.mem_append_right _ (h)))⟩)⟩) (by decide +kernel)
set_option maxRecDepth 20000 in
theorem gX11_unit_X11_of : GoodIn wsX11_unit (wsV RX11 62 RX11 yX11_of wsX11_of) := goodIn_app (goodIn_of _ (by decide +kernel)) ggX11_unit_X11_of
theorem dX11_part_0 : decode cX11_part 0 = .ok (.aload_n 0, 1) := by decide +kernel
theorem dX11_part_1 : decode cX11_part 1 = .ok (.invokevirtual 182, 3) := by decide +kernel
theorem dX11_part_4 : decode cX11_part 4 = .ok (.istore_n 1, 1) := by decide +kernel
theorem dX11_part_5 : decode cX11_part 5 = .ok (.aload_n 0, 1) := by decide +kernel
theorem dX11_part_6 : decode cX11_part 6 = .ok (.invokevirtual 163, 3) := by decide +kernel
theorem dX11_part_9 : decode cX11_part 9 = .ok (.ifCond .eq 44, 3) := by decide +kernel
theorem dX11_part_12 : decode cX11_part 12 = .ok (.aload_n 0, 1) := by decide +kernel
theorem dX11_part_13 : decode cX11_part 13 = .ok (.invokevirtual 154, 3) := by decide +kernel
theorem dX11_part_16 : decode cX11_part 16 = .ok (.bipush 38, 2) := by decide +kernel
theorem dX11_part_18 : decode cX11_part 18 = .ok (.if_icmp .ne 35, 3) := by decide +kernel
theorem dX11_part_21 : decode cX11_part 21 = .ok (.aload_n 0, 1) := by decide +kernel
theorem dX11_part_22 : decode cX11_part 22 = .ok (.dup, 1) := by decide +kernel
theorem dX11_part_23 : decode cX11_part 23 = .ok (.getfield 148, 3) := by decide +kernel
theorem dX11_part_26 : decode cX11_part 26 = .ok (.iconst 1, 1) := by decide +kernel
theorem dX11_part_27 : decode cX11_part 27 = .ok (.iadd, 1) := by decide +kernel
theorem dX11_part_28 : decode cX11_part 28 = .ok (.putfield 148, 3) := by decide +kernel
theorem dX11_part_31 : decode cX11_part 31 = .ok (.aload_n 0, 1) := by decide +kernel
theorem dX11_part_32 : decode cX11_part 32 = .ok (.invokevirtual 182, 3) := by decide +kernel
theorem dX11_part_35 : decode cX11_part 35 = .ok (.istore_n 2, 1) := by decide +kernel
theorem dX11_part_36 : decode cX11_part 36 = .ok (.iload_n 1, 1) := by decide +kernel
theorem dX11_part_37 : decode cX11_part 37 = .ok (.ifCond .eq 11, 3) := by decide +kernel
theorem dX11_part_40 : decode cX11_part 40 = .ok (.iload_n 2, 1) := by decide +kernel
theorem dX11_part_41 : decode cX11_part 41 = .ok (.ifCond .eq 7, 3) := by decide +kernel
theorem dX11_part_44 : decode cX11_part 44 = .ok (.iconst 1, 1) := by decide +kernel
theorem dX11_part_45 : decode cX11_part 45 = .ok (.goto 4, 3) := by decide +kernel
theorem dX11_part_48 : decode cX11_part 48 = .ok (.iconst 0, 1) := by decide +kernel
theorem dX11_part_49 : decode cX11_part 49 = .ok (.istore_n 1, 1) := by decide +kernel
theorem dX11_part_50 : decode cX11_part 50 = .ok (.goto (-45), 3) := by decide +kernel
theorem dX11_part_53 : decode cX11_part 53 = .ok (.iload_n 1, 1) := by decide +kernel
theorem dX11_part_54 : decode cX11_part 54 = .ok (.ireturn, 1) := by decide +kernel
set_option maxRecDepth 20000 in
theorem ggX11_part_X11_unit : GoodIn wsX11_part wsX11_unit := goodIn_sub (List.forall_mem_cons.mpr ⟨List.mem_cons_of_mem _ (List.mem_append_left _ (List.mem_append_left _ (List.mem_of_getElem? (l := wsX11_part_r1) (i := 20) rfl))), (List.forall_mem_append.mpr ⟨(List.forall_mem_append.mpr ⟨(List.forall_mem_cons.mpr ⟨List.mem_cons_of_mem _ (List.mem_append_left _ (List.mem_append_left _ (List.mem_of_getElem? (l := wsX11_part_r1) (i := 21) rfl))), (List.forall_mem_cons.mpr ⟨List.mem_cons_of_mem _ (List.mem_append_left _ (List.mem_append_left _ (List.mem_of_getElem? (l := wsX11_part_r1) (i := 0) rfl))), (List.forall_mem_cons.mpr ⟨List.mem_cons_of_mem _ (List.mem_append_left _ (List.mem_append_left _ (List.mem_of_getElem? (l := wsX11_part_r1) (i := 22) rfl))), (List.forall_mem_cons.mpr ⟨List.mem_cons_of_mem _ (List.mem_append_left _ (List.mem_append_left _ (List.mem_of_getElem? (l := wsX11_part_r1) (i := 10) rfl))), (List.forall_mem_cons.mpr ⟨List.mem_cons_of_mem _ (List.mem_append_left _ (List.mem_append_left _ (List.mem_of_getElem? (l := wsX11_part_r1) (i := 11) rfl))), (List.forall_mem_cons.mpr ⟨List.mem_cons_of_mem _ (List.mem_append_left _ (List.mem_append_left _ (List.mem_of_getElem? (l := wsX11_part_r1) (i := 12) rfl))), (List.forall_mem_cons.mpr ⟨List.mem_cons_of_mem _ (List.mem_append_left _ (List.mem_append_left _ (List.mem_of_getElem? (l := wsX11_part_r1) (i := 4) rfl))), (List.forall_mem_cons.mpr ⟨List.mem_cons_of_mem _ (List.mem_append_left _ (List.mem_append_left _ (List.mem_of_getElem? (l := wsX11_part_r1) (i := 13) rfl))), (List.forall_mem_cons.mpr ⟨List.mem_cons_of_mem _ (List.mem_append_left _ (List.mem_append_left _ (List.mem_of_getElem? (l := wsX11_part_r1) (i := 14) rfl))), (List.forall_mem_cons.mpr ⟨List.mem_cons_of_mem _ (List.mem_append_left _ (List.mem_append_left _ (List.mem_of_getElem? (l := wsX11_part_r1) (i := 15) rfl))), (List.forall_mem_cons.mpr ⟨List.mem_cons_of_mem _ (List.mem_append_left _ (List.mem_append_left _ (List.mem_of_getElem? (l := wsX11_part_r1) (i := 23) rfl))), (List.forall_mem_cons.mpr ⟨List.mem_cons_of_mem _ (List.mem_append_left _ (List.mem_append_right _ (List.mem_of_getElem? (l := wsX11_part_r2) (i := 0) rfl))), (List.forall_mem_cons.mpr ⟨List.mem_cons_of_mem _ (List.mem_append_left _ (List.mem_append_right _ (List.mem_of_getElem? (l := wsX11_part_r2) (i := 1) rfl))), (List.forall_mem_cons.mpr ⟨List.mem_cons_of_mem _ (List.mem_append_left _ (List.mem_append_right _ (List.mem_of_getElem? (l := wsX11_part_r2) (i := 2) rfl))), (List.forall_mem_cons.mpr ⟨List.mem_cons_of_mem _ (List.mem_append_left _ (List.mem_append_left _ (List.mem_of_getElem? (l := wsX11_part_r1) (i := 9) rfl))), (List.forall_mem_cons.mpr ⟨List.mem_cons_of_mem _ (List.mem_append_left _ (List.mem_append_right _ (List.mem_of_getElem? (l := wsX11_part_r2) (i := 3) rfl))), (List.forall_mem_cons.mpr ⟨List.mem_cons_of_mem _ (List.mem_append_left _ (List.mem_append_right _ (List.mem_of_getElem? (l := wsX11_part_r2) (i := 4) rfl))), (List.forall_mem_cons.mpr ⟨List.mem_cons_of_mem _ (List.mem_append_left _ (List.mem_append_right _ (List.mem_of_getElem? (l := wsX11_part_r2) (i := 5) rfl))), (List.forall_mem_cons.mpr ⟨List.mem_cons_of_mem _ (List.mem_append_left _ (List.mem_append_right _ (List.mem_of_getElem? (l := wsX11_part_r2) (i := 6) rfl))), (List.forall_mem_cons.mpr ⟨List.mem_cons_of_mem _ (List.mem_append_left _ (List.mem_append_right _ (List.mem_of_getElem? (l := wsX11_part_r2) (i := 7) rfl))), (List.forall_mem_cons.mpr ⟨List.mem_cons_of_mem _ (List.mem_append_left _ (List.mem_append_right _ (List.mem_of_getElem? (l := wsX11_part_r2) (i := 8) rfl))), (List.forall_mem_cons.mpr ⟨List.mem_cons_of_mem _ (List.mem_append_left _ (List.mem_append_right _ (List.mem_of_getElem? (l := wsX11_part_r2) (i := 9) rfl))), (List.forall_mem_cons.mpr ⟨List.mem_cons_of_mem _ (List.mem_append_left _ (List.mem_append_left _ (List.mem_of_getElem? (l := wsX11_part_r1) (i := 5) rfl))), (List.forall_mem_cons.mpr ⟨List.mem_cons_of_mem _ (List.mem_append_left _ (List.mem_append_left _ (List.mem_of_getElem? (l := wsX11_part_r1) (i := 6) rfl))), (fun _ h => nomatch h)⟩)⟩)⟩)⟩)⟩)⟩)⟩)⟩)⟩)⟩)⟩)⟩)⟩)⟩)⟩)⟩)⟩)⟩)⟩)⟩)⟩)⟩)⟩)⟩), (List.forall_mem_cons.mpr ⟨List.mem_cons_of_mem _ (List.mem_append_left _ (List.mem_append_left _ (List.mem_of_getElem? (l := wsX11_part_r1) (i := 7) rfl))), (List.forall_mem_cons.mpr ⟨List.mem_cons_of_mem _ (List.mem_append_left _ (List.mem_append_left _ (List.mem_of_getElem? (l := wsX11_part_r1) (i := 8) rfl))), (List.forall_mem_cons.mpr ⟨List.mem_cons_of_mem _ (List.mem_append_left _ (List.mem_append_right _ (List.mem_of_getElem? (l := wsX11_part_r2) (i := 10) rfl))), (List.forall_mem_cons.mpr ⟨List.mem_cons_of_mem _ (List.mem_append_left _ (List.mem_append_right _ (List.mem_of_getElem? (l := wsX11_part_r2) (i := 11) rfl))), (List.forall_mem_cons.mpr ⟨List.mem_cons_of_mem _ (List.mem_append_left _ (List.mem_append_right _ (List.mem_of_getElem? (l := wsX11_part_r2) (i := 12) rfl))), (List.forall_mem_cons.mpr ⟨List.mem_cons_of_mem _ (List.mem_append_left _ (List.mem_append_right _ (List.mem_of_getElem? (l := wsX11_part_r2) (i := 13) rfl))), (List.forall_mem_cons.mpr ⟨List.mem_cons_of_mem _ (List.mem_append_left _ (List.mem_append_right _ (List.mem_of_getElem? (l := wsX11_part_r2) (i := 14) rfl))), (List.forall_mem_cons.mpr ⟨List.mem_cons_of_mem _ (List.mem_append_left _ (List.mem_append_right _ (List.mem_of_getElem? (l := wsX11_part_r2) (i := 15) rfl))), (List.forall_mem_cons.mpr ⟨List.mem_cons_of_mem _ (List.mem_append_left _ (List.mem_append_right _ (List.mem_of_getElem? (l := wsX11_part_r2) (i := 16) rfl))), (List.forall_mem_cons.mpr ⟨List.mem_cons_of_mem _ (List.mem_append_left _ (List.mem_append_right _ (List.mem_of_getElem? (l := wsX11_part_r2) (i := 17) rfl))), (List.forall_mem_cons.mpr ⟨List.mem_cons_of_mem _ (List.mem_append_left _ (List.mem_append_right _ (List.mem_of_getElem? (l := wsX11_part_r2) (i := 18) rfl))), (List.forall_mem_cons.mpr ⟨List.mem_cons_of_mem _ (List.mem_append_left _ (List.mem_append_right _ (List.mem_of_getElem? (l := wsX11_part_r2) (i := 19) rfl))), (List.forall_mem_cons.mpr ⟨List.mem_cons_of_mem _ (List.mem_append_left _ (List.mem_append_right _ (List.mem_of_getElem? (l := wsX11_part_r2) (i := 20) rfl))), (List.forall_mem_cons.mpr ⟨List.mem_cons_of_mem _ (List.mem_append_left _ (List.mem_append_right _ (List.mem_of_getElem? (l := wsX11_part_r2) (i := 21) rfl))), (List.forall_mem_cons.mpr ⟨List.mem_cons_self, (List.forall_mem_cons.mpr ⟨List.mem_cons_of_mem _ (List.mem_append_left _ (List.mem_append_left _ (List.mem_of_getElem? (l := wsX11_part_r1) (i := 1) rfl))), (List.forall_mem_cons.mpr ⟨List.mem_cons_of_mem _ (List.mem_append_left _ (List.mem_append_left _ (List.mem_of_getElem? (l := wsX11_part_r1) (i := 2) rfl))), (List.forall_mem_cons.mpr ⟨List.mem_cons_of_mem _ (List.mem_append_left _ (List.mem_append_left _ (List.mem_of_getElem? (l := wsX11_part_r1) (i := 3) rfl))), (List.forall_mem_cons.mpr ⟨List.mem_cons_of_mem _ (List.mem_append_left _ (List.mem_append_left _ (List.mem_of_getElem? (l := wsX11_part_r1) (i := 16) rfl))), (List.forall_mem_cons.mpr ⟨List.mem_cons_of_mem _ (List.mem_append_left _ (List.mem_append_left _ (List.mem_of_getElem? (l := wsX11_part_r1) (i := 17) rfl))), (List.forall_mem_cons.mpr ⟨List.mem_cons_of_mem _ (List.mem_append_left _ (List.mem_append_left _ (List.mem_of_getElem? (l := wsX11_part_r1) (i := 18) rfl))), (List.forall_mem_cons.mpr ⟨List.mem_cons_of_mem _ (List.mem_append_left _ (List.mem_append_left _ (List.mem_of_getElem? (l := wsX11_part_r1) (i := 19) rfl))), (fun _ h => nomatch h)⟩)⟩)⟩)⟩)⟩)⟩)⟩)⟩)⟩)⟩)⟩)⟩)⟩)⟩)⟩)⟩)⟩)⟩)⟩)⟩)⟩)⟩)⟩), (fun _ h => List.mem_cons_of_mem _ (List.mem_append_right _ (h)))⟩)⟩) (by decide +kernel)
set_option maxRecDepth 20000 in
theorem gX11_part_X11_unit : GoodIn wsX11_part (wsV RX11 182 RX11 yX11_unit wsX11_unit) := goodIn_app (goodIn_of _ (by decide +kernel)) ggX11_part_X11_unit
set_option maxRecDepth 20000 in
theorem ggX11_part_X11_isFine : GoodIn wsX11_part wsX11_isFine := goodIn_sub (List.forall_mem_cons.mpr ⟨List.mem_cons_of_mem _ (List.mem_append_left _ (List.mem_append_left _ (List.mem_of_getElem? (l := wsX11_part_r1) (i := 8) rfl))), (List.forall_mem_append.mpr ⟨(List.forall_mem_cons.mpr ⟨List.mem_cons_of_mem _ (List.mem_append_left _ (List.mem_append_left _ (List.mem_of_getElem? (l := wsX11_part_r1) (i := 9) rfl))), (fun _ h => nomatch h)⟩), (fun _ h => List.mem_cons_of_mem _ (List.mem_append_right _ (h)))⟩)⟩) (by decide +kernel)
set_option maxRecDepth 20000 in
theorem gX11_part_X11_isFine : GoodIn wsX11_part (wsV RX11 163 RX11 yX11_isFine wsX11_isFine) := goodIn_app (goodIn_of _ (by decide +kernel)) ggX11_part_X11_isFine
set_option maxRecDepth 20000 in
theorem ggX11_part_X11_look : GoodIn wsX11_part wsX11_look := goodIn_sub (List.forall_mem_cons.mpr ⟨List.mem_cons_of_mem _ (List.mem_append_left _ (List.mem_append_left _ (List.mem_of_getElem? (l := wsX11_part_r1) (i := 13) rfl))), (List.forall_mem_append.mpr ⟨(List.forall_mem_cons.mpr ⟨List.mem_cons_of_mem _ (List.mem_append_left _ (List.mem_append_left _ (List.mem_of_getElem? (l := wsX11_part_r1) (i := 0) rfl))), (List.forall_mem_cons.mpr ⟨List.mem_cons_of_mem _ (List.mem_append_left _ (List.mem_append_left _ (List.mem_of_getElem? (l := wsX11_part_r1) (i := 14) rfl))), (List.forall_mem_cons.mpr ⟨List.mem_cons_of_mem _ (List.mem_append_left _ (List.mem_append_left _ (List.mem_of_getElem? (l := wsX11_part_r1) (i := 15) rfl))), (fun _ h => nomatch h)⟩)⟩)⟩), (fun _ h => List.mem_cons_of_mem _ (List.mem_append_right _ (h)))⟩)⟩) (by decide +kernel)
set_option maxRecDepth 20000 in
theorem gX11_part_X11_look : GoodIn wsX11_part (wsV RX11 154 RX11 yX11_look wsX11_look) := goodIn_app (goodIn_of _ (by decide +kernel)) ggX11_part_X11_look
theorem dX11_tests_0 : decode cX11_tests 0 = .ok (.aload_n 0, 1) := by decide +kernel
theorem dX11_tests_1 : decode cX11_tests 1 = .ok (.invokevirtual 185, 3) := by decide +kernel
theorem dX11_tests_4 : decode cX11_tests 4 = .ok (.istore_n 1, 1) := by decide +kernel
theorem dX11_tests_5 : decode cX11_tests 5 = .ok (.aload_n 0, 1) := by decide +kernel
theorem dX11_tests_6 : decode cX11_tests 6 = .ok (.invokevirtual 163, 3) := by decide +kernel
theorem dX11_tests_9 : decode cX11_tests 9 = .ok (.ifCond .eq 44, 3) := by decide +kernel
theorem dX11_tests_12 : decode cX11_tests 12 = .ok (.aload_n 0, 1) := by decide +kernel
theorem dX11_tests_13 : decode cX11_tests 13 = .ok (.invokevirtual 154, 3) := by decide +kernel
theorem dX11_tests_16 : decode cX11_tests 16 = .ok (.bipush 124, 2) := by decide +kernel
theorem dX11_tests_18 : decode cX11_tests 18 = .ok (.if_icmp .ne 35, 3) := by decide +kernel
theorem dX11_tests_21 : decode cX11_tests 21 = .ok (.aload_n 0, 1) := by decide +kernel
theorem dX11_tests_22 : decode cX11_tests 22 = .ok (.dup, 1) := by decide +kernel
theorem dX11_tests_23 : decode cX11_tests 23 = .ok (.getfield 148, 3) := by decide +kernel
theorem dX11_tests_26 : decode cX11_tests 26 = .ok (.iconst 1, 1) := by decide +kernel
theorem dX11_tests_27 : decode cX11_tests 27 = .ok (.iadd, 1) := by decide +kernel
theorem dX11_tests_28 : decode cX11_tests 28 = .ok (.putfield 148, 3) := by decide +kernel
theorem dX11_tests_31 : decode cX11_tests 31 = .ok (.aload_n 0, 1) := by decide +kernel
theorem dX11_tests_32 : decode cX11_tests 32 = .ok (.invokevirtual 185, 3) := by decide +kernel
theorem dX11_tests_35 : decode cX11_tests 35 = .ok (.istore_n 2, 1) := by decide +kernel
theorem dX11_tests_36 : decode cX11_tests 36 = .ok (.iload_n 1, 1) := by decide +kernel
theorem dX11_tests_37 : decode cX11_tests 37 = .ok (.ifCond .ne 7, 3) := by decide +kernel
theorem dX11_tests_40 : decode cX11_tests 40 = .ok (.iload_n 2, 1) := by decide +kernel
theorem dX11_tests_41 : decode cX11_tests 41 = .ok (.ifCond .eq 7, 3) := by decide +kernel
theorem dX11_tests_44 : decode cX11_tests 44 = .ok (.iconst 1, 1) := by decide +kernel
theorem dX11_tests_45 : decode cX11_tests 45 = .ok (.goto 4, 3) := by decide +kernel
theorem dX11_tests_48 : decode cX11_tests 48 = .ok (.iconst 0, 1) := by decide +kernel
theorem dX11_tests_49 : decode cX11_tests 49 = .ok (.istore_n 1, 1) := by decide +kernel
theorem dX11_tests_50 : decode cX11_tests 50 = .ok (.goto (-45), 3) := by decide +kernel
theorem dX11_tests_53 : decode cX11_tests 53 = .ok (.iload_n 1, 1) := by decide +kernel
theorem dX11_tests_54 : decode cX11_tests 54 = .ok (.ireturn, 1) := by decide +kernel
set_option maxRecDepth 20000 in
theorem ggX11_tests_X11_part : GoodIn wsX11_tests wsX11_part := goodIn_sub (List.forall_mem_cons.mpr ⟨List.mem_cons_of_mem _ (List.mem_append_left _ (List.mem_append_left _ (List.mem_of_getElem? (l := wsX11_tests_r1) (i := 16) rfl))), (List.forall_mem_append.mpr ⟨(List.forall_mem_append.mpr ⟨(List.forall_mem_cons.mpr ⟨List.mem_cons_of_mem _ (List.mem_append_left _ (List.mem_append_left _ (List.mem_of_getElem? (l := wsX11_tests_r1) (i := 0) rfl))), (List.forall_mem_cons.mpr ⟨List.mem_cons_of_mem _ (List.mem_append_left _ (List.mem_append_left _ (List.mem_of_getElem? (l := wsX11_tests_r1) (i := 17) rfl))), (List.forall_mem_cons.mpr ⟨List.mem_cons_of_mem _ (List.mem_append_left _ (List.mem_append_left _ (List.mem_of_getElem? (l := wsX11_tests_r1) (i := 18) rfl))), (List.forall_mem_cons.mpr ⟨List.mem_cons_of_mem _ (List.mem_append_left _ (List.mem_append_left _ (List.mem_of_getElem? (l := wsX11_tests_r1) (i := 19) rfl))), (List.forall_mem_cons.mpr ⟨List.mem_cons_of_mem _ (List.mem_append_left _ (List.mem_append_left _ (List.mem_of_getElem? (l := wsX11_tests_r1) (i := 4) rfl))), (List.forall_mem_cons.mpr ⟨List.mem_cons_of_mem _ (List.mem_append_left _ (List.mem_append_left _ (List.mem_of_getElem? (l := wsX11_tests_r1) (i := 5) rfl))), (List.forall_mem_cons.mpr ⟨List.mem_cons_of_mem _ (List.mem_append_left _ (List.mem_append_left _ (List.mem_of_getElem? (l := wsX11_tests_r1) (i := 6) rfl))), (List.forall_mem_cons.mpr ⟨List.mem_cons_of_mem _ (List.mem_append_left _ (List.mem_append_left _ (List.mem_of_getElem? (l := wsX11_tests_r1) (i := 7) rfl))), (List.forall_mem_cons.mpr ⟨List.mem_cons_of_mem _ (List.mem_append_left _ (List.mem_append_left _ (List.mem_of_getElem? (l := wsX11_tests_r1) (i := 8) rfl))), (List.forall_mem_cons.mpr ⟨List.mem_cons_of_mem _ (List.mem_append_left _ (List.mem_append_left _ (List.mem_of_getElem? (l := wsX11_tests_r1) (i := 9) rfl))), (List.forall_mem_cons.mpr ⟨List.mem_cons_of_mem _ (List.mem_append_left _ (List.mem_append_left _ (List.mem_of_getElem? (l := wsX11_tests_r1) (i := 10) rfl))), (List.forall_mem_cons.mpr ⟨List.mem_cons_of_mem _ (List.mem_append_left _ (List.mem_append_left _ (List.mem_of_getElem? (l := wsX11_tests_r1) (i := 11) rfl))), (List.forall_mem_cons.mpr ⟨List.mem_cons_of_mem _ (List.mem_append_left _ (List.mem_append_left _ (List.mem_of_getElem? (l := wsX11_tests_r1) (i := 12) rfl))), (List.forall_mem_cons.mpr ⟨List.mem_cons_of_mem _ (List.mem_append_left _ (List.mem_append_left _ (List.mem_of_getElem? (l := wsX11_tests_r1) (i := 13) rfl))), (List.forall_mem_cons.mpr ⟨List.mem_cons_of_mem _ (List.mem_append_left _ (List.mem_append_left _ (List.mem_of_getElem? (l := wsX11_tests_r1) (i := 14) rfl))), (List.forall_mem_cons.mpr ⟨List.mem_cons_of_mem _ (List.mem_append_left _ (List.mem_append_left _ (List.mem_of_getElem? (l := wsX11_tests_r1) (i := 15) rfl))), (List.forall_mem_cons.mpr ⟨List.mem_cons_self, (List.forall_mem_cons.mpr ⟨List.mem_cons_of_mem _ (List.mem_append_left _ (List.mem_append_left _ (List.mem_of_getElem? (l := wsX11_tests_r1) (i := 1) rfl))), (List.forall_mem_cons.mpr ⟨List.mem_cons_of_mem _ (List.mem_append_left _ (List.mem_append_left _ (List.mem_of_getElem? (l := wsX11_tests_r1) (i := 2) rfl))), (List.forall_mem_cons.mpr ⟨List.mem_cons_of_mem _ (List.mem_append_left _ (List.mem_append_left _ (List.mem_of_getElem? (l := wsX11_tests_r1) (i := 3) rfl))), (List.forall_mem_cons.mpr ⟨List.mem_cons_of_mem _ (List.mem_append_left _ (List.mem_append_left _ (List.mem_of_getElem? (l := wsX11_tests_r1) (i := 20) rfl))), (List.forall_mem_cons.mpr ⟨List.mem_cons_of_mem _ (List.mem_append_left _ (List.mem_append_left _ (List.mem_of_getElem? (l := wsX11_tests_r1) (i := 21) rfl))), (List.forall_mem_cons.mpr ⟨List.mem_cons_of_mem _ (List.mem_append_left _ (List.mem_append_left _ (List.mem_of_getElem? (l := wsX11_tests_r1) (i := 22) rfl))), (List.forall_mem_cons.mpr ⟨List.mem_cons_of_mem _ (List.mem_append_left _ (List.mem_append_left _ (List.mem_of_getElem? (l := wsX11_tests_r1) (i := 23) rfl))), (fun _ h => nomatch h)⟩)⟩)⟩)⟩)⟩)⟩)⟩)⟩)⟩)⟩)⟩)⟩)⟩)⟩)⟩)⟩)⟩)⟩)⟩)⟩)⟩)⟩)⟩)⟩), (List.forall_mem_cons.mpr ⟨List.mem_cons_of_mem _ (List.mem_append_left _ (List.mem_append_right _ (List.mem_of_getElem? (l := wsX11_tests_r2) (i := 0) rfl))), (List.forall_mem_cons.mpr ⟨List.mem_cons_of_mem _ (List.mem_append_left _ (List.mem_append_right _ (List.mem_of_getElem? (l := wsX11_tests_r2) (i := 1) rfl))), (List.forall_mem_cons.mpr ⟨List.mem_cons_of_mem _ (List.mem_append_left _ (List.mem_append_right _ (List.mem_of_getElem? (l := wsX11_tests_r2) (i := 2) rfl))), (List.forall_mem_cons.mpr ⟨List.mem_cons_of_mem _ (List.mem_append_left _ (List.mem_append_right _ (List.mem_of_getElem? (l := wsX11_tests_r2) (i := 3) rfl))), (List.forall_mem_cons.mpr ⟨List.mem_cons_of_mem _ (List.mem_append_left _ (List.mem_append_right _ (List.mem_of_getElem? (l := wsX11_tests_r2) (i := 4) rfl))), (List.forall_mem_cons.mpr ⟨List.mem_cons_of_mem _ (List.mem_append_left _ (List.mem_append_right _ (List.mem_of_getElem? (l := wsX11_tests_r2) (i := 5) rfl))), (List.forall_mem_cons.mpr ⟨List.mem_cons_of_mem _ (List.mem_append_left _ (List.mem_append_right _ (List.mem_of_getElem? (l := wsX11_tests_r2) (i := 6) rfl))), (List.forall_mem_cons.mpr ⟨List.mem_cons_of_mem _ (List.mem_append_left _ (List.mem_append_right _ (List.mem_of_getElem? (l := wsX11_tests_r2) (i := 7) rfl))), (List.forall_mem_cons.mpr ⟨List.mem_cons_of_mem _ (List.mem_append_left _ (List.mem_append_right _ (List.mem_of_getElem? (l := wsX11_tests_r2) (i := 8) rfl))), (List.forall_mem_cons.mpr ⟨List.mem_cons_of_mem _ (List.mem_append_left _ (List.mem_append_right _ (List.mem_of_getElem? (l := wsX11_tests_r2) (i := 9) rfl))), (List.forall_mem_cons.mpr ⟨List.mem_cons_of_mem _ (List.mem_append_left _ (List.mem_append_right _ (List.mem_of_getElem? (l := wsX11_tests_r2) (i := 10) rfl))), (List.forall_mem_cons.mpr ⟨List.mem_cons_of_mem _ (List.mem_append_left _ (List.mem_append_right _ (List.mem_of_getElem? (l := wsX11_tests_r2) (i := 11) rfl))), (List.forall_mem_cons.mpr ⟨List.mem_cons_of_mem _ (List.mem_append_left _ (List.mem_append_right _ (List.mem_of_getElem? (l := wsX11_tests_r2) (i := 12) rfl))), (List.forall_mem_cons.mpr ⟨List.mem_cons_of_mem _ (List.mem_append_left _ (List.mem_append_right _ (List.mem_of_getElem? (l := wsX11_tests_r2) (i := 13) rfl))), (List.forall_mem_cons.mpr ⟨List.mem_cons_of_mem _ (List.mem_append_left _ (List.mem_append_right _ (List.mem_of_getElem? (l := wsX11_tests_r2) (i := 14) rfl))), (List.forall_mem_cons.mpr ⟨List.mem_cons_of_mem _ (List.mem_append_left _ (List.mem_append_right _ (List.mem_of_getElem? (l := wsX11_tests_r2) (i := 15) rfl))), (List.forall_mem_cons.mpr ⟨List.mem_cons_of_mem _ (List.mem_append_left _ (List.mem_append_right _ (List.mem_of_getElem? (l := wsX11_tests_r2) (i := 16) rfl))), (List.forall_mem_cons.mpr ⟨List.mem_cons_of_mem _ (List.mem_append_left _ (List.mem_append_right _ (List.mem_of_getElem? (l := wsX11_tests_r2) (i := 17) rfl))), (List.forall_mem_cons.mpr ⟨List.mem_cons_of_mem _ (List.mem_append_left _ (List.mem_append_right _ (List.mem_of_getElem? (l := wsX11_tests_r2) (i := 18) rfl))), (List.forall_mem_cons.mpr ⟨List.mem_cons_of_mem _ (List.mem_append_left _ (List.mem_append_right _ (List.mem_of_getElem? (l := wsX11_tests_r2) (i := 19) rfl))), (List.forall_mem_cons.mpr ⟨List.mem_cons_of_mem _ (List.mem_append_left _ (List.mem_append_right _ (List.mem_of_getElem? (l := wsX11_tests_r2) (i := 20) rfl))), (List.forall_mem_cons.mpr ⟨List.mem_cons_of_mem _ (List.mem_append_left _ (List.mem_append_right _ (List.mem_of_getElem? (l := wsX11_tests_r2) (i := 21) rfl))), (fun _ h => nomatch h)⟩)⟩)⟩)⟩)⟩)⟩)⟩)⟩)⟩)⟩)⟩)⟩)⟩)⟩)⟩)⟩)⟩)⟩)⟩)⟩)⟩)⟩)⟩), (fun _ h => List.mem_cons_of_mem _ (List.mem_append_right _ (h)))⟩)⟩) (by decide +kernel)
set_option maxRecDepth 20000 in
theorem gX11_tests_X11_part : GoodIn wsX11_tests (wsV RX11 185 RX11 yX11_part wsX11_part) := goodIn_app (goodIn_of _ (by decide +kernel)) ggX11_tests_X11_part
set_option maxRecDepth 20000 in
theorem ggX11_tests_X11_isFine : GoodIn wsX11_tests wsX11_isFine := goodIn_sub (List.forall_mem_cons.mpr ⟨List.mem_cons_of_mem _ (List.mem_append_left _ (List.mem_append_left _ (List.mem_of_getElem? (l := wsX11_tests_r1) (i := 8) rfl))), (List.forall_mem_append.mpr ⟨(List.forall_mem_cons.mpr ⟨List.mem_cons_of_mem _ (List.mem_append_left _ (List.mem_append_left _ (List.mem_of_getElem? (l := wsX11_tests_r1) (i := 9) rfl))), (fun _ h => nomatch h)⟩), (fun _ h => List.mem_cons_of_mem _ (List.mem_append_right _ (h)))⟩)⟩) (by decide +kernel)
set_option maxRecDepth 20000 in
theorem gX11_tests_X11_isFine : GoodIn wsX11_tests (wsV RX11 163 RX11 yX11_isFine wsX11_isFine) := goodIn_app (goodIn_of _ (by decide +kernel)) ggX11_tests_X11_isFine
set_option maxRecDepth 20000 in
theorem ggX11_tests_X11_look : GoodIn wsX11_tests wsX11_look := goodIn_sub (List.forall_mem_cons.mpr ⟨List.mem_cons_of_mem _ (List.mem_append_left _ (List.mem_append_left _ (List.mem_of_getElem? (l := wsX11_tests_r1) (i := 13) rfl))), (List.forall_mem_append.mpr ⟨(List.forall_mem_cons.mpr ⟨List.mem_cons_of_mem _ (List.mem_append_left _ (List.mem_append_left _ (List.mem_of_getElem? (l := wsX11_tests_r1) (i := 0) rfl))), (List.forall_mem_cons.mpr ⟨List.mem_cons_of_mem _ (List.mem_append_left _ (List.mem_append_left _ (List.mem_of_getElem? (l := wsX11_tests_r1) (i := 14) rfl))), (List.forall_mem_cons.mpr ⟨List.mem_cons_of_mem _ (List.mem_append_left _ (List.mem_append_left _ (List.mem_of_getElem? (l := wsX11_tests_r1) (i := 15) rfl))), (fun _ h => nomatch h)⟩)⟩)⟩), (fun _ h => List.mem_cons_of_mem _ (List.mem_append_right _ (h)))⟩)⟩) (by decide +kernel)
set_option maxRecDepth 20000 in
theorem gX11_tests_X11_look : GoodIn wsX11_tests (wsV RX11 154 RX11 yX11_look wsX11_look) := goodIn_app (goodIn_of _ (by decide +kernel)) ggX11_tests_X11_look
theorem kX11_unit_0 : (.fieldLink RX11 148 "RunDeskModel" "at" "I" : Cond) ∈ wsX11_unit := List.mem_of_getElem? (i := 2) (by decide +kernel)
theorem qX11_unit_X11 : ∀ w ∈ wsX110, w ∈ wsX11_unit := fun _ h => List.mem_cons_of_mem _ (List.mem_append_right _ (h))
theorem kX11_unit_2 : (.fieldLink RX11 179 "RunDeskModel" "asked" "I" : Cond) ∈ wsX11_unit := List.mem_of_getElem? (i := 3) (by decide +kernel)
theorem kX11_unit_3 : (.fieldLink RX11 167 "RunDeskModel" "open" "I" : Cond) ∈ wsX11_unit := List.mem_of_getElem? (i := 1) (by decide +kernel)
theorem kX11_part_0 : (.fieldLink RX11 148 "RunDeskModel" "at" "I" : Cond) ∈ wsX11_part := List.mem_of_getElem? (i := 1) (by decide +kernel)
theorem qX11_part_X11 : ∀ w ∈ wsX110, w ∈ wsX11_part := fun _ h => List.mem_cons_of_mem _ (List.mem_append_right _ (h))
theorem kX11_tests_0 : (.fieldLink RX11 148 "RunDeskModel" "at" "I" : Cond) ∈ wsX11_tests := List.mem_of_getElem? (i := 1) (by decide +kernel)
theorem qX11_tests_X11 : ∀ w ∈ wsX110, w ∈ wsX11_tests := fun _ h => List.mem_cons_of_mem _ (List.mem_append_right _ (h))
set_option maxHeartbeats 4000000 in
set_option maxRecDepth 100000 in
theorem mX11_unit_0 (l : Launch) (D : va_G) (cB cI cZ : ClassId) (a_t : Nat) (a_t_now : Nat) (a_t_kept : Nat) (a_t_text : Nat) (a_t_passing : Nat) (a_t_order : Nat) (a_t_times : Nat) (t_thrown : Int32) (t_isKept : Int32) (t_length : Int32) (t_at : Int32) (t_fault : Int32) (t_open : Int32) (t_asked : Int32) (t_byGun : Int32) (t_prizeMost : Int32) (t_listed : Int32) (t_now : Nat → Int32) (t_text : Nat → Int32) (sz : Nat) (N : Nat) (T : Int32 → Int32 → Int32 → Int32 → Int32 → (Nat → Int32) → (Nat → Int32) → Option (Bool × Int32 × Int32 × Int32)) (hT : T = fX11_testsD N 0) (b0 : Bool) (t_at' : Int32) (t_fault' : Int32) (t_open' : Int32) (h : fX11_unit T N t_asked t_at t_fault t_length t_open t_now t_text = some (b0, t_at', t_fault', t_open')) : Met l yX11_unit wsX11_unit ({ frames := 2, cells := 0, slots := 0, locals := 42 } : Room) (va_Pc [.ref a_t] (zPre D (zT cB cI cZ) [(a_t, .inr (11, [.int t_thrown, .ref a_t_now, .ref a_t_kept, .int t_isKept, .ref a_t_text, .int t_length, .ref a_t_passing, .int t_at, .int t_fault, .int t_open, .int t_asked, .int t_byGun, .int t_prizeMost, .ref a_t_order, .ref a_t_times, .int t_listed])), (a_t_now, .inl (cI, 1562, .inl t_now)), (a_t_text, .inl (cB, 200, .inl t_text))] sz)) (zQi (zb b0) D (zT cB cI cZ) [(a_t, .inr (11, [.int t_thrown, .ref a_t_now, .ref a_t_kept, .int t_isKept, .ref a_t_text, .int t_length, .ref a_t_passing, .int t_at', .int t_fault', .int t_open', .int t_asked, .int t_byGun, .int t_prizeMost, .ref a_t_order, .ref a_t_times, .int t_listed])), (a_t_now, .inl (cI, 1562, .inl t_now)), (a_t_text, .inl (cB, 200, .inl t_text))] (va_A [(a_t, .inr (11, [.int t_thrown, .ref a_t_now, .ref a_t_kept, .int t_isKept, .ref a_t_text, .int t_length, .ref a_t_passing, .int t_at, .int t_fault, .int t_open, .int t_asked, .int t_byGun, .int t_prizeMost, .ref a_t_order, .ref a_t_times, .int t_listed])), (a_t_now, .inl (cI, 1562, .inl t_now)), (a_t_text, .inl (cB, 200, .inl t_text))] sz)) 0 0 (va_A [(a_t, .inr (11, [.int t_thrown, .ref a_t_now, .ref a_t_kept, .int t_isKept, .ref a_t_text, .int t_length, .ref a_t_passing, .int t_at, .int t_fault, .int t_open, .int t_asked, .int t_byGun, .int t_prizeMost, .ref a_t_order, .ref a_t_times, .int t_listed])), (a_t_now, .inl (cI, 1562, .inl t_now)), (a_t_text, .inl (cB, 200, .inl t_text))] sz) := by
  refine Met.ofW (cc := cX11_unit) (maxL := 6) (ret := (some .boolean)) (by decide) rfl ?_
  intro p e s m args below meth c s₁ B hml hv
  obtain ⟨rfl, hsz, hP, hK, hN, hZ, hD0⟩ := hv
  have hx := B.exec
  have hb := B.bytes
  have hr := B.returns
  have hts := atoms_spec (ws := wsX11_unit) B.pre
  have hown : s.vm.findClass RX11 = some m.cls := findClass_of_methodNamed B.named
  have hlocks := B.notSynchronized
  subst hsz
  have hD := hD0.self (sz := s.heap.size)
  generalize hAe : va_A [(a_t, .inr (11, [.int t_thrown, .ref a_t_now, .ref a_t_kept, .int t_isKept, .ref a_t_text, .int t_length, .ref a_t_passing, .int t_at, .int t_fault, .int t_open, .int t_asked, .int t_byGun, .int t_prizeMost, .ref a_t_order, .ref a_t_times, .int t_listed])), (a_t_now, .inl (cI, 1562, .inl t_now)), (a_t_text, .inl (cB, 200, .inl t_text))] s.heap.size = A at hD hZ ⊢
  have hA : ∀ q : Nat, s.heap.size ≤ q → A q := fun q h => by rw [← hAe]; exact Or.inr h
  have hS : va_S A s.heap s.heap [] := va_S.rf
  have hl := lv_entry ([.ref a_t]) (n := 6) (Nat.le_of_ble_eq_true rfl)
  rw [lg_entry_eq]
  generalize (lg_sl ([.ref a_t]) ++ List.replicate (6 - (lg_sl ([.ref a_t])).length) Slot.unset).toArray = ls at hl ⊢
  have hl : lv_has ls 6 [(0, .ref a_t)] := hl
  unfold fX11_unit at h
  refine lv_aload_n hx hb dX11_unit_0 rfl (lv_at hl 0 rfl) ?_
  obtain ⟨⟨r1, t_at_r2⟩, e3, h⟩ := zz_b h
  dsimp only at h
  refine zVi (As := []) (rest := []) (C := RX11) (wr := [(a_t_now, .inl (cI, 1562, .inl t_now))]) [0, 2] [1] 0 ⟨hx, hb, hml, hown, hts⟩ (mX11_look l D cB cI cZ a_t a_t_now a_t_kept a_t_text a_t_passing a_t_order a_t_times t_thrown t_isKept t_length t_at t_fault t_open t_asked t_byGun t_prizeMost t_listed t_text s.heap.size N r1 t_at_r2 e3) (cwV 0 hts gX11_unit_X11_look rfl rfl rfl (by decide +kernel) ⟨Nat.le_of_ble_eq_true rfl, Nat.le_of_ble_eq_true rfl⟩) hK hN hZ hP hD hS hA rfl rfl rfl rfl rfl rfl rfl rfl hl.1 rfl (lv_room (Nat.le_of_ble_eq_true rfl)) dX11_unit_1 ⟨Nat.le_of_ble_eq_true rfl, Nat.le_of_ble_eq_true rfl⟩ (fun H locs hP hD hS => ?_)
  have hP : va_P D vwCl [(a_t_now, .inl (cI, 1562, .inl t_now)), (a_t, .inr (11, [.int t_thrown, .ref a_t_now, .ref a_t_kept, .int t_isKept, .ref a_t_text, .int t_length, .ref a_t_passing, .int t_at_r2, .int t_fault, .int t_open, .int t_asked, .int t_byGun, .int t_prizeMost, .ref a_t_order, .ref a_t_times, .int t_listed])), (a_t_text, .inl (cB, 200, .inl t_text))] H := hP
  have hD : va_D A [(a_t_now, .inl (cI, 1562, .inl t_now)), (a_t, .inr (11, [.int t_thrown, .ref a_t_now, .ref a_t_kept, .int t_isKept, .ref a_t_text, .int t_length, .ref a_t_passing, .int t_at_r2, .int t_fault, .int t_open, .int t_asked, .int t_byGun, .int t_prizeMost, .ref a_t_order, .ref a_t_times, .int t_listed])), (a_t_text, .inl (cB, 200, .inl t_text))] := hD
  refine lv_istore_n (lv' := [(1, .int r1), (0, .ref a_t)]) hx hb dX11_unit_4 rfl hl (by decide) rfl (fun ls hl => ?_)
  refine lv_iload_n hx hb dX11_unit_5 rfl (lv_at hl 0 rfl) ?_
  refine lv_bipush (v := (nI 40)) hx hb dX11_unit_6 rfl ?_
  refine lv_icmp_ne (tgt := 69) hx hb dX11_unit_8 (by decide) (fun c4 => ?_) (fun c4 => ?_)
  · have h := zz_f h c4
    refine lv_iload_n hx hb dX11_unit_69 rfl (lv_at hl 0 rfl) ?_
    refine lv_bipush (v := (nI 115)) hx hb dX11_unit_70 rfl ?_
    have J120 : ∀ (s0_j120 : Int32) (H : Heap) (locs : List Loc) (ls : Array Slot), fX11_unit_J120 N t_length t_fault t_open t_asked t_now t_text t_at_r2 s0_j120 = some (b0, t_at', t_fault', t_open') → va_P D vwCl [(a_t_now, .inl (cI, 1562, .inl t_now)), (a_t, .inr (11, [.int t_thrown, .ref a_t_now, .ref a_t_kept, .int t_isKept, .ref a_t_text, .int t_length, .ref a_t_passing, .int t_at_r2, .int t_fault, .int t_open, .int t_asked, .int t_byGun, .int t_prizeMost, .ref a_t_order, .ref a_t_times, .int t_listed])), (a_t_text, .inl (cB, 200, .inl t_text))] H → va_D A [(a_t_now, .inl (cI, 1562, .inl t_now)), (a_t, .inr (11, [.int t_thrown, .ref a_t_now, .ref a_t_kept, .int t_isKept, .ref a_t_text, .int t_length, .ref a_t_passing, .int t_at_r2, .int t_fault, .int t_open, .int t_asked, .int t_byGun, .int t_prizeMost, .ref a_t_order, .ref a_t_times, .int t_listed])), (a_t_text, .inl (cB, 200, .inl t_text))] → va_S A s.heap H locs → lv_has ls 6 [(1, .int r1), (0, .ref a_t)] → W p l e (headSpec wsX11_unit ({ frames := 2, cells := 0, slots := 0, locals := 42 } : Room)).room s m #[Value.ref a_t] below meth c H locs 0 0 (MQ below (zQi (zb b0) D (zT cB cI cZ) [(a_t, .inr (11, [.int t_thrown, .ref a_t_now, .ref a_t_kept, .int t_isKept, .ref a_t_text, .int t_length, .ref a_t_passing, .int t_at', .int t_fault', .int t_open', .int t_asked, .int t_byGun, .int t_prizeMost, .ref a_t_order, .ref a_t_times, .int t_listed])), (a_t_now, .inl (cI, 1562, .inl t_now)), (a_t_text, .inl (cB, 200, .inl t_text))] A) #[Value.ref a_t] s 0 0 A) (F0 m 120 ls [.int s0_j120]) := by
      intro s0_j120 H locs ls h hP hD hS hl
      unfold fX11_unit_J120 at h
      refine lv_istore_n (lv' := [(2, .int s0_j120), (1, .int r1), (0, .ref a_t)]) hx hb dX11_unit_120 rfl hl (by decide) rfl (fun ls hl => ?_)
      refine lv_iload_n hx hb dX11_unit_121 rfl (lv_at hl 0 rfl) ?_
      refine lv_iconst (v := (-1 : Int32)) hx hb dX11_unit_122 rfl ?_
      refine lv_icmp_ne (tgt := 132) hx hb dX11_unit_123 (by decide) (fun c5 => ?_) (fun c5 => ?_)
      · have h := zz_f h c5
        refine lv_aload_n hx hb dX11_unit_132 rfl (lv_at hl 2 rfl) ?_
        refine lv_dup hx hb dX11_unit_133 rfl ?_
        refine va_get (D := D) (ci := 11) (C := RX11) (T := TX11) (N := 16) hx hb hts qX11_unit_X11 hown hK hP 1 rfl rfl 7 (by decide) (hts _ kX11_unit_0) (fun _ h9 => h9) rfl dX11_unit_134 ?_
        refine lv_iconst (v := (nI 1)) hx hb dX11_unit_137 rfl ?_
        refine lv_iadd hx hb dX11_unit_138 ?_
        refine va_put (D := D) (ci := 11) (ty := .int) (C := RX11) (T := TX11) (N := 16) hx hb hts qX11_unit_X11 tyX11 tyX11_ok nmX11 hown hK hP hD hS 1 rfl rfl 7 (by decide) (hts _ kX11_unit_0) (fun _ h9 => h9) rfl (by decide +kernel) rfl (by first | rfl | exact zz_fit) (Nat.le_of_ble_eq_true rfl) dX11_unit_139 (fun H locs hP hD hS => ?_)
        have hP : va_P D vwCl [(a_t_now, .inl (cI, 1562, .inl t_now)), (a_t, .inr (11, [.int t_thrown, .ref a_t_now, .ref a_t_kept, .int t_isKept, .ref a_t_text, .int t_length, .ref a_t_passing, .int (t_at_r2 + (nI 1)), .int t_fault, .int t_open, .int t_asked, .int t_byGun, .int t_prizeMost, .ref a_t_order, .ref a_t_times, .int t_listed])), (a_t_text, .inl (cB, 200, .inl t_text))] H := hP
        have hD : va_D A [(a_t_now, .inl (cI, 1562, .inl t_now)), (a_t, .inr (11, [.int t_thrown, .ref a_t_now, .ref a_t_kept, .int t_isKept, .ref a_t_text, .int t_length, .ref a_t_passing, .int (t_at_r2 + (nI 1)), .int t_fault, .int t_open, .int t_asked, .int t_byGun, .int t_prizeMost, .ref a_t_order, .ref a_t_times, .int t_listed])), (a_t_text, .inl (cB, 200, .inl t_text))] := hD
        refine lv_aload_n hx hb dX11_unit_142 rfl (lv_at hl 2 rfl) ?_
        obtain ⟨⟨r6, t_at_r7⟩, e8, h⟩ := zz_b h
        dsimp only at h
        refine zVi (As := []) (rest := []) (C := RX11) (wr := [(a_t_now, .inl (cI, 1562, .inl t_now))]) [1, 2] [0] 0 ⟨hx, hb, hml, hown, hts⟩ (mX11_look l D cB cI cZ a_t a_t_now a_t_kept a_t_text a_t_passing a_t_order a_t_times t_thrown t_isKept t_length (t_at_r2 + (nI 1)) t_fault t_open t_asked t_byGun t_prizeMost t_listed t_text H.size N r6 t_at_r7 e8) (cwV 0 hts gX11_unit_X11_look rfl rfl rfl (by decide +kernel) ⟨Nat.le_of_ble_eq_true rfl, Nat.le_of_ble_eq_true rfl⟩) hK hN hZ hP hD hS hA rfl rfl rfl rfl rfl rfl rfl rfl hl.1 rfl (lv_room (Nat.le_of_ble_eq_true rfl)) dX11_unit_143 ⟨Nat.le_of_ble_eq_true rfl, Nat.le_of_ble_eq_true rfl⟩ (fun H locs hP hD hS => ?_)
        have hP : va_P D vwCl [(a_t_now, .inl (cI, 1562, .inl t_now)), (a_t, .inr (11, [.int t_thrown, .ref a_t_now, .ref a_t_kept, .int t_isKept, .ref a_t_text, .int t_length, .ref a_t_passing, .int t_at_r7, .int t_fault, .int t_open, .int t_asked, .int t_byGun, .int t_prizeMost, .ref a_t_order, .ref a_t_times, .int t_listed])), (a_t_text, .inl (cB, 200, .inl t_text))] H := hP
        have hD : va_D A [(a_t_now, .inl (cI, 1562, .inl t_now)), (a_t, .inr (11, [.int t_thrown, .ref a_t_now, .ref a_t_kept, .int t_isKept, .ref a_t_text, .int t_length, .ref a_t_passing, .int t_at_r7, .int t_fault, .int t_open, .int t_asked, .int t_byGun, .int t_prizeMost, .ref a_t_order, .ref a_t_times, .int t_listed])), (a_t_text, .inl (cB, 200, .inl t_text))] := hD
        refine lv_istore_n (lv' := [(3, .int r6), (2, .int s0_j120), (1, .int r1), (0, .ref a_t)]) hx hb dX11_unit_146 rfl hl (by decide) rfl (fun ls hl => ?_)
        refine lv_iload_n hx hb dX11_unit_147 rfl (lv_at hl 0 rfl) ?_
        refine lv_bipush (v := (nI 61)) hx hb dX11_unit_148 rfl ?_
        have J171 : ∀ (H : Heap) (locs : List Loc) (ls : Array Slot), fX11_unit_J171 N t_length t_fault t_open t_asked t_now t_text s0_j120 r6 t_at_r7 = some (b0, t_at', t_fault', t_open') → va_P D vwCl [(a_t_now, .inl (cI, 1562, .inl t_now)), (a_t, .inr (11, [.int t_thrown, .ref a_t_now, .ref a_t_kept, .int t_isKept, .ref a_t_text, .int t_length, .ref a_t_passing, .int t_at_r7, .int t_fault, .int t_open, .int t_asked, .int t_byGun, .int t_prizeMost, .ref a_t_order, .ref a_t_times, .int t_listed])), (a_t_text, .inl (cB, 200, .inl t_text))] H → va_D A [(a_t_now, .inl (cI, 1562, .inl t_now)), (a_t, .inr (11, [.int t_thrown, .ref a_t_now, .ref a_t_kept, .int t_isKept, .ref a_t_text, .int t_length, .ref a_t_passing, .int t_at_r7, .int t_fault, .int t_open, .int t_asked, .int t_byGun, .int t_prizeMost, .ref a_t_order, .ref a_t_times, .int t_listed])), (a_t_text, .inl (cB, 200, .inl t_text))] → va_S A s.heap H locs → lv_has ls 6 [(3, .int r6), (2, .int s0_j120), (1, .int r1), (0, .ref a_t)] → W p l e (headSpec wsX11_unit ({ frames := 2, cells := 0, slots := 0, locals := 42 } : Room)).room s m #[Value.ref a_t] below meth c H locs 0 0 (MQ below (zQi (zb b0) D (zT cB cI cZ) [(a_t, .inr (11, [.int t_thrown, .ref a_t_now, .ref a_t_kept, .int t_isKept, .ref a_t_text, .int t_length, .ref a_t_passing, .int t_at', .int t_fault', .int t_open', .int t_asked, .int t_byGun, .int t_prizeMost, .ref a_t_order, .ref a_t_times, .int t_listed])), (a_t_now, .inl (cI, 1562, .inl t_now)), (a_t_text, .inl (cB, 200, .inl t_text))] A) #[Value.ref a_t] s 0 0 A) (F0 m 171 ls []) := by
          intro  H locs ls h hP hD hS hl
          unfold fX11_unit_J171 at h
          refine lv_aload_n hx hb dX11_unit_171 rfl (lv_at hl 3 rfl) ?_
          refine lv_dup hx hb dX11_unit_172 rfl ?_
          refine va_get (D := D) (ci := 11) (C := RX11) (T := TX11) (N := 16) hx hb hts qX11_unit_X11 hown hK hP 1 rfl rfl 7 (by decide) (hts _ kX11_unit_0) (fun _ h9 => h9) rfl dX11_unit_173 ?_
          refine lv_iconst (v := (nI 1)) hx hb dX11_unit_176 rfl ?_
          refine lv_iadd hx hb dX11_unit_177 ?_
          refine va_put (D := D) (ci := 11) (ty := .int) (C := RX11) (T := TX11) (N := 16) hx hb hts qX11_unit_X11 tyX11 tyX11_ok nmX11 hown hK hP hD hS 1 rfl rfl 7 (by decide) (hts _ kX11_unit_0) (fun _ h9 => h9) rfl (by decide +kernel) rfl (by first | rfl | exact zz_fit) (Nat.le_of_ble_eq_true rfl) dX11_unit_178 (fun H locs hP hD hS => ?_)
          have hP : va_P D vwCl [(a_t_now, .inl (cI, 1562, .inl t_now)), (a_t, .inr (11, [.int t_thrown, .ref a_t_now, .ref a_t_kept, .int t_isKept, .ref a_t_text, .int t_length, .ref a_t_passing, .int (t_at_r7 + (nI 1)), .int t_fault, .int t_open, .int t_asked, .int t_byGun, .int t_prizeMost, .ref a_t_order, .ref a_t_times, .int t_listed])), (a_t_text, .inl (cB, 200, .inl t_text))] H := hP
          have hD : va_D A [(a_t_now, .inl (cI, 1562, .inl t_now)), (a_t, .inr (11, [.int t_thrown, .ref a_t_now, .ref a_t_kept, .int t_isKept, .ref a_t_text, .int t_length, .ref a_t_passing, .int (t_at_r7 + (nI 1)), .int t_fault, .int t_open, .int t_asked, .int t_byGun, .int t_prizeMost, .ref a_t_order, .ref a_t_times, .int t_listed])), (a_t_text, .inl (cB, 200, .inl t_text))] := hD
          refine lv_aload_n hx hb dX11_unit_181 rfl (lv_at hl 3 rfl) ?_
          obtain ⟨⟨r9, t_at_r10, t_fault_r11⟩, e12, h⟩ := zz_b h
          dsimp only at h
          refine zVi (As := []) (rest := []) (C := RX11) (wr := [(a_t_now, .inl (cI, 1562, .inl t_now))]) [1, 2] [0] 0 ⟨hx, hb, hml, hown, hts⟩ (mX11_number l D cB cI cZ a_t a_t_now a_t_kept a_t_text a_t_passing a_t_order a_t_times t_thrown t_isKept t_length (t_at_r7 + (nI 1)) t_fault t_open t_asked t_byGun t_prizeMost t_listed t_text H.size N r9 t_at_r10 t_fault_r11 e12) (cwV 0 hts gX11_unit_X11_number rfl rfl rfl (by decide +kernel) ⟨Nat.le_of_ble_eq_true rfl, Nat.le_of_ble_eq_true rfl⟩) hK hN hZ hP hD hS hA rfl rfl rfl rfl rfl rfl rfl rfl hl.1 rfl (lv_room (Nat.le_of_ble_eq_true rfl)) dX11_unit_182 ⟨Nat.le_of_ble_eq_true rfl, Nat.le_of_ble_eq_true rfl⟩ (fun H locs hP hD hS => ?_)
          have hP : va_P D vwCl [(a_t_now, .inl (cI, 1562, .inl t_now)), (a_t, .inr (11, [.int t_thrown, .ref a_t_now, .ref a_t_kept, .int t_isKept, .ref a_t_text, .int t_length, .ref a_t_passing, .int t_at_r10, .int t_fault_r11, .int t_open, .int t_asked, .int t_byGun, .int t_prizeMost, .ref a_t_order, .ref a_t_times, .int t_listed])), (a_t_text, .inl (cB, 200, .inl t_text))] H := hP
          have hD : va_D A [(a_t_now, .inl (cI, 1562, .inl t_now)), (a_t, .inr (11, [.int t_thrown, .ref a_t_now, .ref a_t_kept, .int t_isKept, .ref a_t_text, .int t_length, .ref a_t_passing, .int t_at_r10, .int t_fault_r11, .int t_open, .int t_asked, .int t_byGun, .int t_prizeMost, .ref a_t_order, .ref a_t_times, .int t_listed])), (a_t_text, .inl (cB, 200, .inl t_text))] := hD
          refine lv_istore (lv' := [(4, .int r9), (3, .int r6), (2, .int s0_j120), (1, .int r1), (0, .ref a_t)]) hx hb dX11_unit_185 hl (by decide) rfl (fun ls hl => ?_)
          refine lv_aload_n hx hb dX11_unit_187 rfl (lv_at hl 4 rfl) ?_
          refine va_get (D := D) (ci := 11) (C := RX11) (T := TX11) (N := 16) hx hb hts qX11_unit_X11 hown hK hP 1 rfl rfl 10 (by decide) (hts _ kX11_unit_2) (fun _ h9 => h9) rfl dX11_unit_188 ?_
          refine lv_iconst (v := (-1 : Int32)) hx hb dX11_unit_191 rfl ?_
          refine lv_icmp_ne (tgt := 199) hx hb dX11_unit_192 (by decide) (fun c13 => ?_) (fun c13 => ?_)
          · have h := zz_f h c13
            refine lv_aload_n hx hb dX11_unit_199 rfl (lv_at hl 4 rfl) ?_
            refine lv_aload_n hx hb dX11_unit_200 rfl (lv_at hl 4 rfl) ?_
            refine va_get (D := D) (ci := 11) (C := RX11) (T := TX11) (N := 16) hx hb hts qX11_unit_X11 hown hK hP 1 rfl rfl 10 (by decide) (hts _ kX11_unit_2) (fun _ h9 => h9) rfl dX11_unit_201 ?_
            refine lv_iload_n hx hb dX11_unit_204 rfl (lv_at hl 2 rfl) ?_
            obtain ⟨r14, e15, h⟩ := zz_b h
            refine zVi (As := [.int t_asked, .int s0_j120]) (rest := []) (C := RX11) (wr := [(a_t_text, .inl (cB, 200, .inl t_text))]) [1, 0] [2] 0 ⟨hx, hb, hml, hown, hts⟩ (mX11_of l D cB cI cZ a_t a_t_now a_t_kept a_t_text a_t_passing a_t_order a_t_times t_thrown t_isKept t_length t_at_r10 t_fault_r11 t_open t_asked t_byGun t_prizeMost t_listed t_now H.size t_asked s0_j120 r14 e15) (cwV 2 hts gX11_unit_X11_of rfl rfl rfl (by decide +kernel) ⟨Nat.le_of_ble_eq_true rfl, Nat.le_of_ble_eq_true rfl⟩) hK hN hZ hP hD hS hA rfl rfl rfl rfl rfl rfl rfl rfl hl.1 rfl (lv_room (Nat.le_of_ble_eq_true rfl)) dX11_unit_205 ⟨Nat.le_of_ble_eq_true rfl, Nat.le_of_ble_eq_true rfl⟩ (fun H locs hP hD hS => ?_)
            have hP : va_P D vwCl [(a_t_text, .inl (cB, 200, .inl t_text)), (a_t, .inr (11, [.int t_thrown, .ref a_t_now, .ref a_t_kept, .int t_isKept, .ref a_t_text, .int t_length, .ref a_t_passing, .int t_at_r10, .int t_fault_r11, .int t_open, .int t_asked, .int t_byGun, .int t_prizeMost, .ref a_t_order, .ref a_t_times, .int t_listed])), (a_t_now, .inl (cI, 1562, .inl t_now))] H := hP
            have hD : va_D A [(a_t_text, .inl (cB, 200, .inl t_text)), (a_t, .inr (11, [.int t_thrown, .ref a_t_now, .ref a_t_kept, .int t_isKept, .ref a_t_text, .int t_length, .ref a_t_passing, .int t_at_r10, .int t_fault_r11, .int t_open, .int t_asked, .int t_byGun, .int t_prizeMost, .ref a_t_order, .ref a_t_times, .int t_listed])), (a_t_now, .inl (cI, 1562, .inl t_now))] := hD
            refine lv_istore (lv' := [(5, .int r14), (4, .int r9), (3, .int r6), (2, .int s0_j120), (1, .int r1), (0, .ref a_t)]) hx hb dX11_unit_208 hl (by decide) rfl (fun ls hl => ?_)
            refine lv_iload_n hx hb dX11_unit_210 rfl (lv_at hl 2 rfl) ?_
            refine lv_bipush (v := (nI 61)) hx hb dX11_unit_211 rfl ?_
            refine lv_icmp_ne (tgt := 231) hx hb dX11_unit_213 (by decide) (fun c16 => ?_) (fun c16 => ?_)
            · have h := zz_f h c16
              refine lv_iload_n hx hb dX11_unit_231 rfl (lv_at hl 2 rfl) ?_
              refine lv_bipush (v := (nI 60)) hx hb dX11_unit_232 rfl ?_
              refine lv_icmp_ne (tgt := 252) hx hb dX11_unit_234 (by decide) (fun c17 => ?_) (fun c17 => ?_)
              · have h := zz_f h c17
                refine lv_iload hx hb dX11_unit_252 (lv_at hl 0 rfl) ?_
                refine lv_iload hx hb dX11_unit_254 (lv_at hl 1 rfl) ?_
                refine lv_icmp_le (tgt := 263) hx hb dX11_unit_256 (by decide) (fun c18 => ?_) (fun c18 => ?_)
                · have h := zz_t h c18
                  refine lv_iconst (v := (nI 0)) hx hb dX11_unit_263 rfl ?_
                  obtain ⟨j0_, g_⟩ := Prod.mk.inj (Option.some.inj h)
                  obtain ⟨j1_, g_⟩ := Prod.mk.inj g_
                  obtain ⟨j2_, g_⟩ := Prod.mk.inj g_
                  have j3_ := g_
                  subst j0_
                  subst j1_
                  subst j2_
                  subst j3_
                  exact W.zret (v := (nI 0)) hx hb hr rfl (fun t ht hW => ⟨⟨_, (), rfl, rfl, zPost.of hP hD hK ht hW [1, 2, 0] rfl rfl rfl⟩, hS.F ht⟩) hS.2.2 dX11_unit_264
                · have h := zz_f h c18
                  refine lv_iconst (v := (nI 1)) hx hb dX11_unit_259 rfl ?_
                  refine lv_goto (tgt := 264) hx hb dX11_unit_260 (by decide) ?_
                  obtain ⟨j0_, g_⟩ := Prod.mk.inj (Option.some.inj h)
                  obtain ⟨j1_, g_⟩ := Prod.mk.inj g_
                  obtain ⟨j2_, g_⟩ := Prod.mk.inj g_
                  have j3_ := g_
                  subst j0_
                  subst j1_
                  subst j2_
                  subst j3_
                  exact W.zret (v := (nI 1)) hx hb hr rfl (fun t ht hW => ⟨⟨_, (), rfl, rfl, zPost.of hP hD hK ht hW [1, 2, 0] rfl rfl rfl⟩, hS.F ht⟩) hS.2.2 dX11_unit_264
              · have h := zz_t h c17
                refine lv_iload hx hb dX11_unit_237 (lv_at hl 0 rfl) ?_
                refine lv_iload hx hb dX11_unit_239 (lv_at hl 1 rfl) ?_
                refine lv_icmp_ge (tgt := 248) hx hb dX11_unit_241 (by decide) (fun c19 => ?_) (fun c19 => ?_)
                · have h := zz_t h c19
                  refine lv_iconst (v := (nI 0)) hx hb dX11_unit_248 rfl ?_
                  refine lv_goto (tgt := 264) hx hb dX11_unit_249 (by decide) ?_
                  obtain ⟨j0_, g_⟩ := Prod.mk.inj (Option.some.inj h)
                  obtain ⟨j1_, g_⟩ := Prod.mk.inj g_
                  obtain ⟨j2_, g_⟩ := Prod.mk.inj g_
                  have j3_ := g_
                  subst j0_
                  subst j1_
                  subst j2_
                  subst j3_
                  exact W.zret (v := (nI 0)) hx hb hr rfl (fun t ht hW => ⟨⟨_, (), rfl, rfl, zPost.of hP hD hK ht hW [1, 2, 0] rfl rfl rfl⟩, hS.F ht⟩) hS.2.2 dX11_unit_264
                · have h := zz_f h c19
                  refine lv_iconst (v := (nI 1)) hx hb dX11_unit_244 rfl ?_
                  refine lv_goto (tgt := 264) hx hb dX11_unit_245 (by decide) ?_
                  obtain ⟨j0_, g_⟩ := Prod.mk.inj (Option.some.inj h)
                  obtain ⟨j1_, g_⟩ := Prod.mk.inj g_
                  obtain ⟨j2_, g_⟩ := Prod.mk.inj g_
                  have j3_ := g_
                  subst j0_
                  subst j1_
                  subst j2_
                  subst j3_
                  exact W.zret (v := (nI 1)) hx hb hr rfl (fun t ht hW => ⟨⟨_, (), rfl, rfl, zPost.of hP hD hK ht hW [1, 2, 0] rfl rfl rfl⟩, hS.F ht⟩) hS.2.2 dX11_unit_264
            · have h := zz_t h c16
              refine lv_iload hx hb dX11_unit_216 (lv_at hl 0 rfl) ?_
              refine lv_iload hx hb dX11_unit_218 (lv_at hl 1 rfl) ?_
              refine lv_icmp_ne (tgt := 227) hx hb dX11_unit_220 (by decide) (fun c20 => ?_) (fun c20 => ?_)
              · have h := zz_f h c20
                refine lv_iconst (v := (nI 0)) hx hb dX11_unit_227 rfl ?_
                refine lv_goto (tgt := 264) hx hb dX11_unit_228 (by decide) ?_
                obtain ⟨j0_, g_⟩ := Prod.mk.inj (Option.some.inj h)
                obtain ⟨j1_, g_⟩ := Prod.mk.inj g_
                obtain ⟨j2_, g_⟩ := Prod.mk.inj g_
                have j3_ := g_
                subst j0_
                subst j1_
                subst j2_
                subst j3_
                exact W.zret (v := (nI 0)) hx hb hr rfl (fun t ht hW => ⟨⟨_, (), rfl, rfl, zPost.of hP hD hK ht hW [1, 2, 0] rfl rfl rfl⟩, hS.F ht⟩) hS.2.2 dX11_unit_264
              · have h := zz_t h c20
                refine lv_iconst (v := (nI 1)) hx hb dX11_unit_223 rfl ?_
                refine lv_goto (tgt := 264) hx hb dX11_unit_224 (by decide) ?_
                obtain ⟨j0_, g_⟩ := Prod.mk.inj (Option.some.inj h)
                obtain ⟨j1_, g_⟩ := Prod.mk.inj g_
                obtain ⟨j2_, g_⟩ := Prod.mk.inj g_
                have j3_ := g_
                subst j0_
                subst j1_
                subst j2_
                subst j3_
                exact W.zret (v := (nI 1)) hx hb hr rfl (fun t ht hW => ⟨⟨_, (), rfl, rfl, zPost.of hP hD hK ht hW [1, 2, 0] rfl rfl rfl⟩, hS.F ht⟩) hS.2.2 dX11_unit_264
          · have h := zz_t h c13
            refine lv_iconst (v := (nI 0)) hx hb dX11_unit_195 rfl ?_
            refine lv_goto (tgt := 208) hx hb dX11_unit_196 (by decide) ?_
            refine lv_istore (lv' := [(5, .int (nI 0)), (4, .int r9), (3, .int r6), (2, .int s0_j120), (1, .int r1), (0, .ref a_t)]) hx hb dX11_unit_208 hl (by decide) rfl (fun ls hl => ?_)
            refine lv_iload_n hx hb dX11_unit_210 rfl (lv_at hl 2 rfl) ?_
            refine lv_bipush (v := (nI 61)) hx hb dX11_unit_211 rfl ?_
            refine lv_icmp_ne (tgt := 231) hx hb dX11_unit_213 (by decide) (fun c21 => ?_) (fun c21 => ?_)
            · have h := zz_f h c21
              refine lv_iload_n hx hb dX11_unit_231 rfl (lv_at hl 2 rfl) ?_
              refine lv_bipush (v := (nI 60)) hx hb dX11_unit_232 rfl ?_
              refine lv_icmp_ne (tgt := 252) hx hb dX11_unit_234 (by decide) (fun c22 => ?_) (fun c22 => ?_)
              · have h := zz_f h c22
                refine lv_iload hx hb dX11_unit_252 (lv_at hl 0 rfl) ?_
                refine lv_iload hx hb dX11_unit_254 (lv_at hl 1 rfl) ?_
                refine lv_icmp_le (tgt := 263) hx hb dX11_unit_256 (by decide) (fun c23 => ?_) (fun c23 => ?_)
                · have h := zz_t h c23
                  refine lv_iconst (v := (nI 0)) hx hb dX11_unit_263 rfl ?_
                  obtain ⟨j0_, g_⟩ := Prod.mk.inj (Option.some.inj h)
                  obtain ⟨j1_, g_⟩ := Prod.mk.inj g_
                  obtain ⟨j2_, g_⟩ := Prod.mk.inj g_
                  have j3_ := g_
                  subst j0_
                  subst j1_
                  subst j2_
                  subst j3_
                  exact W.zret (v := (nI 0)) hx hb hr rfl (fun t ht hW => ⟨⟨_, (), rfl, rfl, zPost.of hP hD hK ht hW [1, 0, 2] rfl rfl rfl⟩, hS.F ht⟩) hS.2.2 dX11_unit_264
                · have h := zz_f h c23
                  refine lv_iconst (v := (nI 1)) hx hb dX11_unit_259 rfl ?_
                  refine lv_goto (tgt := 264) hx hb dX11_unit_260 (by decide) ?_
                  obtain ⟨j0_, g_⟩ := Prod.mk.inj (Option.some.inj h)
                  obtain ⟨j1_, g_⟩ := Prod.mk.inj g_
                  obtain ⟨j2_, g_⟩ := Prod.mk.inj g_
                  have j3_ := g_
                  subst j0_
                  subst j1_
                  subst j2_
                  subst j3_
                  exact W.zret (v := (nI 1)) hx hb hr rfl (fun t ht hW => ⟨⟨_, (), rfl, rfl, zPost.of hP hD hK ht hW [1, 0, 2] rfl rfl rfl⟩, hS.F ht⟩) hS.2.2 dX11_unit_264
              · have h := zz_t h c22
                refine lv_iload hx hb dX11_unit_237 (lv_at hl 0 rfl) ?_
                refine lv_iload hx hb dX11_unit_239 (lv_at hl 1 rfl) ?_
                refine lv_icmp_ge (tgt := 248) hx hb dX11_unit_241 (by decide) (fun c24 => ?_) (fun c24 => ?_)
                · have h := zz_t h c24
                  refine lv_iconst (v := (nI 0)) hx hb dX11_unit_248 rfl ?_
                  refine lv_goto (tgt := 264) hx hb dX11_unit_249 (by decide) ?_
                  obtain ⟨j0_, g_⟩ := Prod.mk.inj (Option.some.inj h)
                  obtain ⟨j1_, g_⟩ := Prod.mk.inj g_
                  obtain ⟨j2_, g_⟩ := Prod.mk.inj g_
                  have j3_ := g_
                  subst j0_
                  subst j1_
                  subst j2_
                  subst j3_
                  exact W.zret (v := (nI 0)) hx hb hr rfl (fun t ht hW => ⟨⟨_, (), rfl, rfl, zPost.of hP hD hK ht hW [1, 0, 2] rfl rfl rfl⟩, hS.F ht⟩) hS.2.2 dX11_unit_264
                · have h := zz_f h c24
                  refine lv_iconst (v := (nI 1)) hx hb dX11_unit_244 rfl ?_
                  refine lv_goto (tgt := 264) hx hb dX11_unit_245 (by decide) ?_
                  obtain ⟨j0_, g_⟩ := Prod.mk.inj (Option.some.inj h)
                  obtain ⟨j1_, g_⟩ := Prod.mk.inj g_
                  obtain ⟨j2_, g_⟩ := Prod.mk.inj g_
                  have j3_ := g_
                  subst j0_
                  subst j1_
                  subst j2_
                  subst j3_
                  exact W.zret (v := (nI 1)) hx hb hr rfl (fun t ht hW => ⟨⟨_, (), rfl, rfl, zPost.of hP hD hK ht hW [1, 0, 2] rfl rfl rfl⟩, hS.F ht⟩) hS.2.2 dX11_unit_264
            · have h := zz_t h c21
              refine lv_iload hx hb dX11_unit_216 (lv_at hl 0 rfl) ?_
              refine lv_iload hx hb dX11_unit_218 (lv_at hl 1 rfl) ?_
              refine lv_icmp_ne (tgt := 227) hx hb dX11_unit_220 (by decide) (fun c25 => ?_) (fun c25 => ?_)
              · have h := zz_f h c25
                refine lv_iconst (v := (nI 0)) hx hb dX11_unit_227 rfl ?_
                refine lv_goto (tgt := 264) hx hb dX11_unit_228 (by decide) ?_
                obtain ⟨j0_, g_⟩ := Prod.mk.inj (Option.some.inj h)
                obtain ⟨j1_, g_⟩ := Prod.mk.inj g_
                obtain ⟨j2_, g_⟩ := Prod.mk.inj g_
                have j3_ := g_
                subst j0_
                subst j1_
                subst j2_
                subst j3_
                exact W.zret (v := (nI 0)) hx hb hr rfl (fun t ht hW => ⟨⟨_, (), rfl, rfl, zPost.of hP hD hK ht hW [1, 0, 2] rfl rfl rfl⟩, hS.F ht⟩) hS.2.2 dX11_unit_264
              · have h := zz_t h c25
                refine lv_iconst (v := (nI 1)) hx hb dX11_unit_223 rfl ?_
                refine lv_goto (tgt := 264) hx hb dX11_unit_224 (by decide) ?_
                obtain ⟨j0_, g_⟩ := Prod.mk.inj (Option.some.inj h)
                obtain ⟨j1_, g_⟩ := Prod.mk.inj g_
                obtain ⟨j2_, g_⟩ := Prod.mk.inj g_
                have j3_ := g_
                subst j0_
                subst j1_
                subst j2_
                subst j3_
                exact W.zret (v := (nI 1)) hx hb hr rfl (fun t ht hW => ⟨⟨_, (), rfl, rfl, zPost.of hP hD hK ht hW [1, 0, 2] rfl rfl rfl⟩, hS.F ht⟩) hS.2.2 dX11_unit_264
        refine lv_icmp_eq (tgt := 171) hx hb dX11_unit_150 (by decide) (fun c26 => ?_) (fun c26 => ?_)
        · have h := zz_t h c26
          exact J171  _ _ _ h (hP.sub [0, 1, 2] rfl) (hD.sub [0, 1, 2] rfl rfl) hS (lv_sub hl [0, 1, 2, 3] rfl)
        · have h := zz_f h c26
          refine lv_iload_n hx hb dX11_unit_153 rfl (lv_at hl 0 rfl) ?_
          refine lv_bipush (v := (nI 60)) hx hb dX11_unit_154 rfl ?_
          refine lv_icmp_eq (tgt := 171) hx hb dX11_unit_156 (by decide) (fun c27 => ?_) (fun c27 => ?_)
          · have h := zz_t h c27
            exact J171  _ _ _ h (hP.sub [0, 1, 2] rfl) (hD.sub [0, 1, 2] rfl rfl) hS (lv_sub hl [0, 1, 2, 3] rfl)
          · have h := zz_f h c27
            refine lv_iload_n hx hb dX11_unit_159 rfl (lv_at hl 0 rfl) ?_
            refine lv_bipush (v := (nI 62)) hx hb dX11_unit_160 rfl ?_
            refine lv_icmp_eq (tgt := 171) hx hb dX11_unit_162 (by decide) (fun c28 => ?_) (fun c28 => ?_)
            · have h := zz_t h c28
              exact J171  _ _ _ h (hP.sub [0, 1, 2] rfl) (hD.sub [0, 1, 2] rfl rfl) hS (lv_sub hl [0, 1, 2, 3] rfl)
            · have h := zz_f h c28
              refine lv_aload_n hx hb dX11_unit_165 rfl (lv_at hl 3 rfl) ?_
              obtain ⟨t_fault_r29, e30, h⟩ := zz_b h
              refine zVv (As := []) (rest := []) (C := RX11) (wr := [(a_t_now, .inl (cI, 1562, .inl t_now)), (a_t_text, .inl (cB, 200, .inl t_text))]) [1] [0, 2] 0 ⟨hx, hb, hml, hown, hts⟩ (mX11_wrong l D cB cI cZ a_t a_t_now a_t_kept a_t_text a_t_passing a_t_order a_t_times t_thrown t_isKept t_length t_at_r7 t_fault t_open t_asked t_byGun t_prizeMost t_listed H.size t_fault_r29 e30) (cwV 0 hts gX11_unit_X11_wrong rfl rfl rfl (by decide +kernel) ⟨Nat.le_of_ble_eq_true rfl, Nat.le_of_ble_eq_true rfl⟩) hK hN hZ hP hD hS hA rfl rfl rfl rfl rfl rfl rfl rfl hl.1 rfl (lv_room (Nat.le_of_ble_eq_true rfl)) dX11_unit_166 ⟨Nat.le_of_ble_eq_true rfl, Nat.le_of_ble_eq_true rfl⟩ (fun H locs hP hD hS => ?_)
              have hP : va_P D vwCl [(a_t_now, .inl (cI, 1562, .inl t_now)), (a_t_text, .inl (cB, 200, .inl t_text)), (a_t, .inr (11, [.int t_thrown, .ref a_t_now, .ref a_t_kept, .int t_isKept, .ref a_t_text, .int t_length, .ref a_t_passing, .int t_at_r7, .int t_fault_r29, .int t_open, .int t_asked, .int t_byGun, .int t_prizeMost, .ref a_t_order, .ref a_t_times, .int t_listed]))] H := hP
              have hD : va_D A [(a_t_now, .inl (cI, 1562, .inl t_now)), (a_t_text, .inl (cB, 200, .inl t_text)), (a_t, .inr (11, [.int t_thrown, .ref a_t_now, .ref a_t_kept, .int t_isKept, .ref a_t_text, .int t_length, .ref a_t_passing, .int t_at_r7, .int t_fault_r29, .int t_open, .int t_asked, .int t_byGun, .int t_prizeMost, .ref a_t_order, .ref a_t_times, .int t_listed]))] := hD
              refine lv_iconst (v := (nI 0)) hx hb dX11_unit_169 rfl ?_
              obtain ⟨j0_, g_⟩ := Prod.mk.inj (Option.some.inj h)
              obtain ⟨j1_, g_⟩ := Prod.mk.inj g_
              obtain ⟨j2_, g_⟩ := Prod.mk.inj g_
              have j3_ := g_
              subst j0_
              subst j1_
              subst j2_
              subst j3_
              exact W.zret (v := (nI 0)) hx hb hr rfl (fun t ht hW => ⟨⟨_, (), rfl, rfl, zPost.of hP hD hK ht hW [2, 0, 1] rfl rfl rfl⟩, hS.F ht⟩) hS.2.2 dX11_unit_170
      · have h := zz_t h c5
        refine lv_aload_n hx hb dX11_unit_126 rfl (lv_at hl 2 rfl) ?_
        obtain ⟨t_fault_r31, e32, h⟩ := zz_b h
        refine zVv (As := []) (rest := []) (C := RX11) (wr := [(a_t_now, .inl (cI, 1562, .inl t_now)), (a_t_text, .inl (cB, 200, .inl t_text))]) [1] [0, 2] 0 ⟨hx, hb, hml, hown, hts⟩ (mX11_wrong l D cB cI cZ a_t a_t_now a_t_kept a_t_text a_t_passing a_t_order a_t_times t_thrown t_isKept t_length t_at_r2 t_fault t_open t_asked t_byGun t_prizeMost t_listed H.size t_fault_r31 e32) (cwV 0 hts gX11_unit_X11_wrong rfl rfl rfl (by decide +kernel) ⟨Nat.le_of_ble_eq_true rfl, Nat.le_of_ble_eq_true rfl⟩) hK hN hZ hP hD hS hA rfl rfl rfl rfl rfl rfl rfl rfl hl.1 rfl (lv_room (Nat.le_of_ble_eq_true rfl)) dX11_unit_127 ⟨Nat.le_of_ble_eq_true rfl, Nat.le_of_ble_eq_true rfl⟩ (fun H locs hP hD hS => ?_)
        have hP : va_P D vwCl [(a_t_now, .inl (cI, 1562, .inl t_now)), (a_t_text, .inl (cB, 200, .inl t_text)), (a_t, .inr (11, [.int t_thrown, .ref a_t_now, .ref a_t_kept, .int t_isKept, .ref a_t_text, .int t_length, .ref a_t_passing, .int t_at_r2, .int t_fault_r31, .int t_open, .int t_asked, .int t_byGun, .int t_prizeMost, .ref a_t_order, .ref a_t_times, .int t_listed]))] H := hP
        have hD : va_D A [(a_t_now, .inl (cI, 1562, .inl t_now)), (a_t_text, .inl (cB, 200, .inl t_text)), (a_t, .inr (11, [.int t_thrown, .ref a_t_now, .ref a_t_kept, .int t_isKept, .ref a_t_text, .int t_length, .ref a_t_passing, .int t_at_r2, .int t_fault_r31, .int t_open, .int t_asked, .int t_byGun, .int t_prizeMost, .ref a_t_order, .ref a_t_times, .int t_listed]))] := hD
        refine lv_iconst (v := (nI 0)) hx hb dX11_unit_130 rfl ?_
        obtain ⟨j0_, g_⟩ := Prod.mk.inj (Option.some.inj h)
        obtain ⟨j1_, g_⟩ := Prod.mk.inj g_
        obtain ⟨j2_, g_⟩ := Prod.mk.inj g_
        have j3_ := g_
        subst j0_
        subst j1_
        subst j2_
        subst j3_
        exact W.zret (v := (nI 0)) hx hb hr rfl (fun t ht hW => ⟨⟨_, (), rfl, rfl, zPost.of hP hD hK ht hW [2, 0, 1] rfl rfl rfl⟩, hS.F ht⟩) hS.2.2 dX11_unit_131
    refine lv_icmp_ne (tgt := 79) hx hb dX11_unit_72 (by decide) (fun c33 => ?_) (fun c33 => ?_)
    · have h := zz_f h c33
      refine lv_iload_n hx hb dX11_unit_79 rfl (lv_at hl 0 rfl) ?_
      refine lv_bipush (v := (nI 121)) hx hb dX11_unit_80 rfl ?_
      refine lv_icmp_ne (tgt := 89) hx hb dX11_unit_82 (by decide) (fun c34 => ?_) (fun c34 => ?_)
      · have h := zz_f h c34
        refine lv_iload_n hx hb dX11_unit_89 rfl (lv_at hl 0 rfl) ?_
        refine lv_bipush (v := (nI 116)) hx hb dX11_unit_90 rfl ?_
        refine lv_icmp_ne (tgt := 99) hx hb dX11_unit_92 (by decide) (fun c35 => ?_) (fun c35 => ?_)
        · have h := zz_f h c35
          refine lv_iload_n hx hb dX11_unit_99 rfl (lv_at hl 0 rfl) ?_
          refine lv_bipush (v := (nI 112)) hx hb dX11_unit_100 rfl ?_
          refine lv_icmp_ne (tgt := 109) hx hb dX11_unit_102 (by decide) (fun c36 => ?_) (fun c36 => ?_)
          · have h := zz_f h c36
            refine lv_iload_n hx hb dX11_unit_109 rfl (lv_at hl 0 rfl) ?_
            refine lv_bipush (v := (nI 107)) hx hb dX11_unit_110 rfl ?_
            refine lv_icmp_ne (tgt := 119) hx hb dX11_unit_112 (by decide) (fun c37 => ?_) (fun c37 => ?_)
            · have h := zz_f h c37
              refine lv_iconst (v := (-1 : Int32)) hx hb dX11_unit_119 rfl ?_
              exact J120 (-1 : Int32) _ _ _ h (hP.sub [0, 1, 2] rfl) (hD.sub [0, 1, 2] rfl rfl) hS (lv_sub hl [0, 1] rfl)
            · have h := zz_t h c37
              refine lv_iconst (v := (nI 0)) hx hb dX11_unit_115 rfl ?_
              refine lv_goto (tgt := 120) hx hb dX11_unit_116 (by decide) ?_
              exact J120 (nI 0) _ _ _ h (hP.sub [0, 1, 2] rfl) (hD.sub [0, 1, 2] rfl rfl) hS (lv_sub hl [0, 1] rfl)
          · have h := zz_t h c36
            refine lv_iconst (v := (nI 5)) hx hb dX11_unit_105 rfl ?_
            refine lv_goto (tgt := 120) hx hb dX11_unit_106 (by decide) ?_
            exact J120 (nI 5) _ _ _ h (hP.sub [0, 1, 2] rfl) (hD.sub [0, 1, 2] rfl rfl) hS (lv_sub hl [0, 1] rfl)
        · have h := zz_t h c35
          refine lv_iconst (v := (nI 4)) hx hb dX11_unit_95 rfl ?_
          refine lv_goto (tgt := 120) hx hb dX11_unit_96 (by decide) ?_
          exact J120 (nI 4) _ _ _ h (hP.sub [0, 1, 2] rfl) (hD.sub [0, 1, 2] rfl rfl) hS (lv_sub hl [0, 1] rfl)
      · have h := zz_t h c34
        refine lv_iconst (v := (nI 2)) hx hb dX11_unit_85 rfl ?_
        refine lv_goto (tgt := 120) hx hb dX11_unit_86 (by decide) ?_
        exact J120 (nI 2) _ _ _ h (hP.sub [0, 1, 2] rfl) (hD.sub [0, 1, 2] rfl rfl) hS (lv_sub hl [0, 1] rfl)
    · have h := zz_t h c33
      refine lv_iconst (v := (nI 3)) hx hb dX11_unit_75 rfl ?_
      refine lv_goto (tgt := 120) hx hb dX11_unit_76 (by decide) ?_
      exact J120 (nI 3) _ _ _ h (hP.sub [0, 1, 2] rfl) (hD.sub [0, 1, 2] rfl rfl) hS (lv_sub hl [0, 1] rfl)
  · have h := zz_t h c4
    refine lv_aload_n hx hb dX11_unit_11 rfl (lv_at hl 1 rfl) ?_
    refine va_get (D := D) (ci := 11) (C := RX11) (T := TX11) (N := 16) hx hb hts qX11_unit_X11 hown hK hP 1 rfl rfl 9 (by decide) (hts _ kX11_unit_3) (fun _ h9 => h9) rfl dX11_unit_12 ?_
    refine lv_bipush (v := (nI 8)) hx hb dX11_unit_15 rfl ?_
    refine lv_icmp_ne (tgt := 26) hx hb dX11_unit_17 (by decide) (fun c38 => ?_) (fun c38 => ?_)
    · have h := zz_f h c38
      refine lv_aload_n hx hb dX11_unit_26 rfl (lv_at hl 1 rfl) ?_
      refine lv_dup hx hb dX11_unit_27 rfl ?_
      refine va_get (D := D) (ci := 11) (C := RX11) (T := TX11) (N := 16) hx hb hts qX11_unit_X11 hown hK hP 1 rfl rfl 9 (by decide) (hts _ kX11_unit_3) (fun _ h9 => h9) rfl dX11_unit_28 ?_
      refine lv_iconst (v := (nI 1)) hx hb dX11_unit_31 rfl ?_
      refine lv_iadd hx hb dX11_unit_32 ?_
      refine va_put (D := D) (ci := 11) (ty := .int) (C := RX11) (T := TX11) (N := 16) hx hb hts qX11_unit_X11 tyX11 tyX11_ok nmX11 hown hK hP hD hS 1 rfl rfl 9 (by decide) (hts _ kX11_unit_3) (fun _ h9 => h9) rfl (by decide +kernel) rfl (by first | rfl | exact zz_fit) (Nat.le_of_ble_eq_true rfl) dX11_unit_33 (fun H locs hP hD hS => ?_)
      have hP : va_P D vwCl [(a_t_now, .inl (cI, 1562, .inl t_now)), (a_t, .inr (11, [.int t_thrown, .ref a_t_now, .ref a_t_kept, .int t_isKept, .ref a_t_text, .int t_length, .ref a_t_passing, .int t_at_r2, .int t_fault, .int (t_open + (nI 1)), .int t_asked, .int t_byGun, .int t_prizeMost, .ref a_t_order, .ref a_t_times, .int t_listed])), (a_t_text, .inl (cB, 200, .inl t_text))] H := hP
      have hD : va_D A [(a_t_now, .inl (cI, 1562, .inl t_now)), (a_t, .inr (11, [.int t_thrown, .ref a_t_now, .ref a_t_kept, .int t_isKept, .ref a_t_text, .int t_length, .ref a_t_passing, .int t_at_r2, .int t_fault, .int (t_open + (nI 1)), .int t_asked, .int t_byGun, .int t_prizeMost, .ref a_t_order, .ref a_t_times, .int t_listed])), (a_t_text, .inl (cB, 200, .inl t_text))] := hD
      refine lv_aload_n hx hb dX11_unit_36 rfl (lv_at hl 1 rfl) ?_
      refine lv_dup hx hb dX11_unit_37 rfl ?_
      refine va_get (D := D) (ci := 11) (C := RX11) (T := TX11) (N := 16) hx hb hts qX11_unit_X11 hown hK hP 1 rfl rfl 7 (by decide) (hts _ kX11_unit_0) (fun _ h9 => h9) rfl dX11_unit_38 ?_
      refine lv_iconst (v := (nI 1)) hx hb dX11_unit_41 rfl ?_
      refine lv_iadd hx hb dX11_unit_42 ?_
      refine va_put (D := D) (ci := 11) (ty := .int) (C := RX11) (T := TX11) (N := 16) hx hb hts qX11_unit_X11 tyX11 tyX11_ok nmX11 hown hK hP hD hS 1 rfl rfl 7 (by decide) (hts _ kX11_unit_0) (fun _ h9 => h9) rfl (by decide +kernel) rfl (by first | rfl | exact zz_fit) (Nat.le_of_ble_eq_true rfl) dX11_unit_43 (fun H locs hP hD hS => ?_)
      have hP : va_P D vwCl [(a_t_now, .inl (cI, 1562, .inl t_now)), (a_t, .inr (11, [.int t_thrown, .ref a_t_now, .ref a_t_kept, .int t_isKept, .ref a_t_text, .int t_length, .ref a_t_passing, .int (t_at_r2 + (nI 1)), .int t_fault, .int (t_open + (nI 1)), .int t_asked, .int t_byGun, .int t_prizeMost, .ref a_t_order, .ref a_t_times, .int t_listed])), (a_t_text, .inl (cB, 200, .inl t_text))] H := hP
      have hD : va_D A [(a_t_now, .inl (cI, 1562, .inl t_now)), (a_t, .inr (11, [.int t_thrown, .ref a_t_now, .ref a_t_kept, .int t_isKept, .ref a_t_text, .int t_length, .ref a_t_passing, .int (t_at_r2 + (nI 1)), .int t_fault, .int (t_open + (nI 1)), .int t_asked, .int t_byGun, .int t_prizeMost, .ref a_t_order, .ref a_t_times, .int t_listed])), (a_t_text, .inl (cB, 200, .inl t_text))] := hD
      refine lv_aload_n hx hb dX11_unit_46 rfl (lv_at hl 1 rfl) ?_
      obtain ⟨⟨b39, t_at_r40, t_fault_r41, t_open_r42⟩, e43, h⟩ := zz_b h
      dsimp only at h
      rw [hT] at e43; cases e43
    · have h := zz_t h c38
      refine lv_aload_n hx hb dX11_unit_20 rfl (lv_at hl 1 rfl) ?_
      obtain ⟨t_fault_r44, e45, h⟩ := zz_b h
      refine zVv (As := []) (rest := []) (C := RX11) (wr := [(a_t_now, .inl (cI, 1562, .inl t_now)), (a_t_text, .inl (cB, 200, .inl t_text))]) [1] [0, 2] 0 ⟨hx, hb, hml, hown, hts⟩ (mX11_wrong l D cB cI cZ a_t a_t_now a_t_kept a_t_text a_t_passing a_t_order a_t_times t_thrown t_isKept t_length t_at_r2 t_fault t_open t_asked t_byGun t_prizeMost t_listed H.size t_fault_r44 e45) (cwV 0 hts gX11_unit_X11_wrong rfl rfl rfl (by decide +kernel) ⟨Nat.le_of_ble_eq_true rfl, Nat.le_of_ble_eq_true rfl⟩) hK hN hZ hP hD hS hA rfl rfl rfl rfl rfl rfl rfl rfl hl.1 rfl (lv_room (Nat.le_of_ble_eq_true rfl)) dX11_unit_21 ⟨Nat.le_of_ble_eq_true rfl, Nat.le_of_ble_eq_true rfl⟩ (fun H locs hP hD hS => ?_)
      have hP : va_P D vwCl [(a_t_now, .inl (cI, 1562, .inl t_now)), (a_t_text, .inl (cB, 200, .inl t_text)), (a_t, .inr (11, [.int t_thrown, .ref a_t_now, .ref a_t_kept, .int t_isKept, .ref a_t_text, .int t_length, .ref a_t_passing, .int t_at_r2, .int t_fault_r44, .int t_open, .int t_asked, .int t_byGun, .int t_prizeMost, .ref a_t_order, .ref a_t_times, .int t_listed]))] H := hP
      have hD : va_D A [(a_t_now, .inl (cI, 1562, .inl t_now)), (a_t_text, .inl (cB, 200, .inl t_text)), (a_t, .inr (11, [.int t_thrown, .ref a_t_now, .ref a_t_kept, .int t_isKept, .ref a_t_text, .int t_length, .ref a_t_passing, .int t_at_r2, .int t_fault_r44, .int t_open, .int t_asked, .int t_byGun, .int t_prizeMost, .ref a_t_order, .ref a_t_times, .int t_listed]))] := hD
      refine lv_iconst (v := (nI 0)) hx hb dX11_unit_24 rfl ?_
      obtain ⟨j0_, g_⟩ := Prod.mk.inj (Option.some.inj h)
      obtain ⟨j1_, g_⟩ := Prod.mk.inj g_
      obtain ⟨j2_, g_⟩ := Prod.mk.inj g_
      have j3_ := g_
      subst j0_
      subst j1_
      subst j2_
      subst j3_
      exact W.zret (v := (nI 0)) hx hb hr rfl (fun t ht hW => ⟨⟨_, (), rfl, rfl, zPost.of hP hD hK ht hW [2, 0, 1] rfl rfl rfl⟩, hS.F ht⟩) hS.2.2 dX11_unit_25
set_option maxHeartbeats 4000000 in
set_option maxRecDepth 100000 in
theorem mX11_part_0 (l : Launch) (D : va_G) (cB cI cZ : ClassId) (a_t : Nat) (a_t_now : Nat) (a_t_kept : Nat) (a_t_text : Nat) (a_t_passing : Nat) (a_t_order : Nat) (a_t_times : Nat) (t_thrown : Int32) (t_isKept : Int32) (t_length : Int32) (t_at : Int32) (t_fault : Int32) (t_open : Int32) (t_asked : Int32) (t_byGun : Int32) (t_prizeMost : Int32) (t_listed : Int32) (t_now : Nat → Int32) (t_text : Nat → Int32) (sz : Nat) (N : Nat) (T : Int32 → Int32 → Int32 → Int32 → Int32 → (Nat → Int32) → (Nat → Int32) → Option (Bool × Int32 × Int32 × Int32)) (hT : T = fX11_testsD N 0) (b0 : Bool) (t_at' : Int32) (t_fault' : Int32) (t_open' : Int32) (h : fX11_part T N t_asked t_at t_fault t_length t_open t_now t_text = some (b0, t_at', t_fault', t_open')) : Met l yX11_part wsX11_part ({ frames := 3, cells := 0, slots := 0, locals := 67 } : Room) (va_Pc [.ref a_t] (zPre D (zT cB cI cZ) [(a_t, .inr (11, [.int t_thrown, .ref a_t_now, .ref a_t_kept, .int t_isKept, .ref a_t_text, .int t_length, .ref a_t_passing, .int t_at, .int t_fault, .int t_open, .int t_asked, .int t_byGun, .int t_prizeMost, .ref a_t_order, .ref a_t_times, .int t_listed])), (a_t_now, .inl (cI, 1562, .inl t_now)), (a_t_text, .inl (cB, 200, .inl t_text))] sz)) (zQi (zb b0) D (zT cB cI cZ) [(a_t, .inr (11, [.int t_thrown, .ref a_t_now, .ref a_t_kept, .int t_isKept, .ref a_t_text, .int t_length, .ref a_t_passing, .int t_at', .int t_fault', .int t_open', .int t_asked, .int t_byGun, .int t_prizeMost, .ref a_t_order, .ref a_t_times, .int t_listed])), (a_t_now, .inl (cI, 1562, .inl t_now)), (a_t_text, .inl (cB, 200, .inl t_text))] (va_A [(a_t, .inr (11, [.int t_thrown, .ref a_t_now, .ref a_t_kept, .int t_isKept, .ref a_t_text, .int t_length, .ref a_t_passing, .int t_at, .int t_fault, .int t_open, .int t_asked, .int t_byGun, .int t_prizeMost, .ref a_t_order, .ref a_t_times, .int t_listed])), (a_t_now, .inl (cI, 1562, .inl t_now)), (a_t_text, .inl (cB, 200, .inl t_text))] sz)) 0 0 (va_A [(a_t, .inr (11, [.int t_thrown, .ref a_t_now, .ref a_t_kept, .int t_isKept, .ref a_t_text, .int t_length, .ref a_t_passing, .int t_at, .int t_fault, .int t_open, .int t_asked, .int t_byGun, .int t_prizeMost, .ref a_t_order, .ref a_t_times, .int t_listed])), (a_t_now, .inl (cI, 1562, .inl t_now)), (a_t_text, .inl (cB, 200, .inl t_text))] sz) := by
  refine Met.ofW (cc := cX11_part) (maxL := 3) (ret := (some .boolean)) (by decide) rfl ?_
  intro p e s m args below meth c s₁ B hml hv
  obtain ⟨rfl, hsz, hP, hK, hN, hZ, hD0⟩ := hv
  have hx := B.exec
  have hb := B.bytes
  have hr := B.returns
  have hts := atoms_spec (ws := wsX11_part) B.pre
  have hown : s.vm.findClass RX11 = some m.cls := findClass_of_methodNamed B.named
  have hlocks := B.notSynchronized
  subst hsz
  have hD := hD0.self (sz := s.heap.size)
  generalize hAe : va_A [(a_t, .inr (11, [.int t_thrown, .ref a_t_now, .ref a_t_kept, .int t_isKept, .ref a_t_text, .int t_length, .ref a_t_passing, .int t_at, .int t_fault, .int t_open, .int t_asked, .int t_byGun, .int t_prizeMost, .ref a_t_order, .ref a_t_times, .int t_listed])), (a_t_now, .inl (cI, 1562, .inl t_now)), (a_t_text, .inl (cB, 200, .inl t_text))] s.heap.size = A at hD hZ ⊢
  have hA : ∀ q : Nat, s.heap.size ≤ q → A q := fun q h => by rw [← hAe]; exact Or.inr h
  have hS : va_S A s.heap s.heap [] := va_S.rf
  have hl := lv_entry ([.ref a_t]) (n := 3) (Nat.le_of_ble_eq_true rfl)
  rw [lg_entry_eq]
  generalize (lg_sl ([.ref a_t]) ++ List.replicate (3 - (lg_sl ([.ref a_t])).length) Slot.unset).toArray = ls at hl ⊢
  have hl : lv_has ls 3 [(0, .ref a_t)] := hl
  unfold fX11_part at h
  refine lv_aload_n hx hb dX11_part_0 rfl (lv_at hl 0 rfl) ?_
  obtain ⟨⟨b1, t_at_r2, t_fault_r3, t_open_r4⟩, e5, h⟩ := zz_b h
  dsimp only at h
  refine zVi (As := []) (rest := []) (C := RX11) (wr := []) [0, 1, 2] [] 0 ⟨hx, hb, hml, hown, hts⟩ (mX11_unit_0 l D cB cI cZ a_t a_t_now a_t_kept a_t_text a_t_passing a_t_order a_t_times t_thrown t_isKept t_length t_at t_fault t_open t_asked t_byGun t_prizeMost t_listed t_now t_text s.heap.size N T hT b1 t_at_r2 t_fault_r3 t_open_r4 e5) (cwV 0 hts gX11_part_X11_unit rfl rfl rfl (by decide +kernel) ⟨Nat.le_of_ble_eq_true rfl, Nat.le_of_ble_eq_true rfl⟩) hK hN hZ hP hD hS hA rfl rfl rfl rfl rfl rfl rfl rfl hl.1 rfl (lv_room (Nat.le_of_ble_eq_true rfl)) dX11_part_1 ⟨Nat.le_of_ble_eq_true rfl, Nat.le_of_ble_eq_true rfl⟩ (fun H locs hP hD hS => ?_)
  have hP : va_P D vwCl [(a_t, .inr (11, [.int t_thrown, .ref a_t_now, .ref a_t_kept, .int t_isKept, .ref a_t_text, .int t_length, .ref a_t_passing, .int t_at_r2, .int t_fault_r3, .int t_open_r4, .int t_asked, .int t_byGun, .int t_prizeMost, .ref a_t_order, .ref a_t_times, .int t_listed])), (a_t_now, .inl (cI, 1562, .inl t_now)), (a_t_text, .inl (cB, 200, .inl t_text))] H := hP
  have hD : va_D A [(a_t, .inr (11, [.int t_thrown, .ref a_t_now, .ref a_t_kept, .int t_isKept, .ref a_t_text, .int t_length, .ref a_t_passing, .int t_at_r2, .int t_fault_r3, .int t_open_r4, .int t_asked, .int t_byGun, .int t_prizeMost, .ref a_t_order, .ref a_t_times, .int t_listed])), (a_t_now, .inl (cI, 1562, .inl t_now)), (a_t_text, .inl (cB, 200, .inl t_text))] := hD
  refine lv_istore_n (lv' := [(1, .int (zb b1)), (0, .ref a_t)]) hx hb dX11_part_4 rfl hl (by decide) rfl (fun ls hl => ?_)
  have X5_53 : ∀ (v1_5 : Bool) (t_at_l5 : Int32) (t_fault_l5 : Int32) (t_open_l5 : Int32) (H : Heap) (locs : List Loc) (ls : Array Slot), some (v1_5, t_at_l5, t_fault_l5, t_open_l5) = some (b0, t_at', t_fault', t_open') → va_P D vwCl [(a_t, .inr (11, [.int t_thrown, .ref a_t_now, .ref a_t_kept, .int t_isKept, .ref a_t_text, .int t_length, .ref a_t_passing, .int t_at_l5, .int t_fault_l5, .int t_open_l5, .int t_asked, .int t_byGun, .int t_prizeMost, .ref a_t_order, .ref a_t_times, .int t_listed])), (a_t_now, .inl (cI, 1562, .inl t_now)), (a_t_text, .inl (cB, 200, .inl t_text))] H → va_D A [(a_t, .inr (11, [.int t_thrown, .ref a_t_now, .ref a_t_kept, .int t_isKept, .ref a_t_text, .int t_length, .ref a_t_passing, .int t_at_l5, .int t_fault_l5, .int t_open_l5, .int t_asked, .int t_byGun, .int t_prizeMost, .ref a_t_order, .ref a_t_times, .int t_listed])), (a_t_now, .inl (cI, 1562, .inl t_now)), (a_t_text, .inl (cB, 200, .inl t_text))] → va_S A s.heap H locs → lv_has ls 3 [(1, .int (zb v1_5)), (0, .ref a_t)] → W p l e (headSpec wsX11_part ({ frames := 3, cells := 0, slots := 0, locals := 67 } : Room)).room s m #[Value.ref a_t] below meth c H locs 0 0 (MQ below (zQi (zb b0) D (zT cB cI cZ) [(a_t, .inr (11, [.int t_thrown, .ref a_t_now, .ref a_t_kept, .int t_isKept, .ref a_t_text, .int t_length, .ref a_t_passing, .int t_at', .int t_fault', .int t_open', .int t_asked, .int t_byGun, .int t_prizeMost, .ref a_t_order, .ref a_t_times, .int t_listed])), (a_t_now, .inl (cI, 1562, .inl t_now)), (a_t_text, .inl (cB, 200, .inl t_text))] A) #[Value.ref a_t] s 0 0 A) (F0 m 53 ls []) := by
    intro v1_5 t_at_l5 t_fault_l5 t_open_l5 H locs ls h hP hD hS hl
    refine lv_iload_n hx hb dX11_part_53 rfl (lv_at hl 0 rfl) ?_
    obtain ⟨j0_, g_⟩ := Prod.mk.inj (Option.some.inj h)
    obtain ⟨j1_, g_⟩ := Prod.mk.inj g_
    obtain ⟨j2_, g_⟩ := Prod.mk.inj g_
    have j3_ := g_
    subst j0_
    subst j1_
    subst j2_
    subst j3_
    exact W.zret (v := (zb v1_5)) hx hb hr zz_n (fun t ht hW => ⟨⟨_, (), rfl, rfl, zPost.of hP hD hK ht hW [0, 1, 2] rfl rfl rfl⟩, hS.F ht⟩) hS.2.2 dX11_part_54
  have L5 : ∀ (n : Nat) (v1_5 : Bool) (t_at_l5 : Int32) (t_fault_l5 : Int32) (t_open_l5 : Int32) (H : Heap) (locs : List Loc) (ls : Array Slot), fX11_part_L5 N T t_length t_asked t_now t_text (fun (v1_5 : Bool) (t_at_l5 : Int32) (t_fault_l5 : Int32) (t_open_l5 : Int32) => some (v1_5, t_at_l5, t_fault_l5, t_open_l5)) n v1_5 t_at_l5 t_fault_l5 t_open_l5 = some (b0, t_at', t_fault', t_open') → va_P D vwCl [(a_t, .inr (11, [.int t_thrown, .ref a_t_now, .ref a_t_kept, .int t_isKept, .ref a_t_text, .int t_length, .ref a_t_passing, .int t_at_l5, .int t_fault_l5, .int t_open_l5, .int t_asked, .int t_byGun, .int t_prizeMost, .ref a_t_order, .ref a_t_times, .int t_listed])), (a_t_now, .inl (cI, 1562, .inl t_now)), (a_t_text, .inl (cB, 200, .inl t_text))] H → va_D A [(a_t, .inr (11, [.int t_thrown, .ref a_t_now, .ref a_t_kept, .int t_isKept, .ref a_t_text, .int t_length, .ref a_t_passing, .int t_at_l5, .int t_fault_l5, .int t_open_l5, .int t_asked, .int t_byGun, .int t_prizeMost, .ref a_t_order, .ref a_t_times, .int t_listed])), (a_t_now, .inl (cI, 1562, .inl t_now)), (a_t_text, .inl (cB, 200, .inl t_text))] → va_S A s.heap H locs → lv_has ls 3 [(1, .int (zb v1_5)), (0, .ref a_t)] → W p l e (headSpec wsX11_part ({ frames := 3, cells := 0, slots := 0, locals := 67 } : Room)).room s m #[Value.ref a_t] below meth c H locs 0 0 (MQ below (zQi (zb b0) D (zT cB cI cZ) [(a_t, .inr (11, [.int t_thrown, .ref a_t_now, .ref a_t_kept, .int t_isKept, .ref a_t_text, .int t_length, .ref a_t_passing, .int t_at', .int t_fault', .int t_open', .int t_asked, .int t_byGun, .int t_prizeMost, .ref a_t_order, .ref a_t_times, .int t_listed])), (a_t_now, .inl (cI, 1562, .inl t_now)), (a_t_text, .inl (cB, 200, .inl t_text))] A) #[Value.ref a_t] s 0 0 A) (F0 m 5 ls []) := by
    intro n
    induction n with
    | zero => intro _ _ _ _ H locs ls h hP hD hS hl; cases h
    | succ n5 ih5 =>
      intro v1_5 t_at_l5 t_fault_l5 t_open_l5 H locs ls h hP hD hS hl
      rw [fX11_part_L5.eq_2] at h
      refine lv_aload_n hx hb dX11_part_5 rfl (lv_at hl 1 rfl) ?_
      obtain ⟨b6, e7, h⟩ := zz_b h
      refine zVi (As := []) (rest := []) (C := RX11) (wr := [(a_t_now, .inl (cI, 1562, .inl t_now)), (a_t_text, .inl (cB, 200, .inl t_text))]) [0] [1, 2] 0 ⟨hx, hb, hml, hown, hts⟩ (mX11_isFine l D cB cI cZ a_t a_t_now a_t_kept a_t_text a_t_passing a_t_order a_t_times t_thrown t_isKept t_length t_at_l5 t_fault_l5 t_open_l5 t_asked t_byGun t_prizeMost t_listed H.size b6 e7) (cwV 0 hts gX11_part_X11_isFine rfl rfl rfl (by decide +kernel) ⟨Nat.le_of_ble_eq_true rfl, Nat.le_of_ble_eq_true rfl⟩) hK hN hZ hP hD hS hA rfl rfl rfl rfl rfl rfl rfl rfl hl.1 rfl (lv_room (Nat.le_of_ble_eq_true rfl)) dX11_part_6 ⟨Nat.le_of_ble_eq_true rfl, Nat.le_of_ble_eq_true rfl⟩ (fun H locs hP hD hS => ?_)
      have hP : va_P D vwCl [(a_t_now, .inl (cI, 1562, .inl t_now)), (a_t_text, .inl (cB, 200, .inl t_text)), (a_t, .inr (11, [.int t_thrown, .ref a_t_now, .ref a_t_kept, .int t_isKept, .ref a_t_text, .int t_length, .ref a_t_passing, .int t_at_l5, .int t_fault_l5, .int t_open_l5, .int t_asked, .int t_byGun, .int t_prizeMost, .ref a_t_order, .ref a_t_times, .int t_listed]))] H := hP
      have hD : va_D A [(a_t_now, .inl (cI, 1562, .inl t_now)), (a_t_text, .inl (cB, 200, .inl t_text)), (a_t, .inr (11, [.int t_thrown, .ref a_t_now, .ref a_t_kept, .int t_isKept, .ref a_t_text, .int t_length, .ref a_t_passing, .int t_at_l5, .int t_fault_l5, .int t_open_l5, .int t_asked, .int t_byGun, .int t_prizeMost, .ref a_t_order, .ref a_t_times, .int t_listed]))] := hD
      refine lv_if_eq (tgt := 53) hx hb dX11_part_9 (by decide) (fun c8 => ?_) (fun c8 => ?_)
      · have h := zz_t h c8
        exact X5_53 v1_5 t_at_l5 t_fault_l5 t_open_l5 _ _ _ h (hP.sub [2, 0, 1] rfl) (hD.sub [2, 0, 1] rfl rfl) hS (lv_sub hl [0, 1] rfl)
      · have h := zz_f h c8
        refine lv_aload_n hx hb dX11_part_12 rfl (lv_at hl 1 rfl) ?_
        obtain ⟨⟨r9, t_at_r10⟩, e11, h⟩ := zz_b h
        dsimp only at h
        refine zVi (As := []) (rest := []) (C := RX11) (wr := [(a_t_now, .inl (cI, 1562, .inl t_now))]) [2, 1] [0] 0 ⟨hx, hb, hml, hown, hts⟩ (mX11_look l D cB cI cZ a_t a_t_now a_t_kept a_t_text a_t_passing a_t_order a_t_times t_thrown t_isKept t_length t_at_l5 t_fault_l5 t_open_l5 t_asked t_byGun t_prizeMost t_listed t_text H.size N r9 t_at_r10 e11) (cwV 0 hts gX11_part_X11_look rfl rfl rfl (by decide +kernel) ⟨Nat.le_of_ble_eq_true rfl, Nat.le_of_ble_eq_true rfl⟩) hK hN hZ hP hD hS hA rfl rfl rfl rfl rfl rfl rfl rfl hl.1 rfl (lv_room (Nat.le_of_ble_eq_true rfl)) dX11_part_13 ⟨Nat.le_of_ble_eq_true rfl, Nat.le_of_ble_eq_true rfl⟩ (fun H locs hP hD hS => ?_)
        have hP : va_P D vwCl [(a_t_now, .inl (cI, 1562, .inl t_now)), (a_t, .inr (11, [.int t_thrown, .ref a_t_now, .ref a_t_kept, .int t_isKept, .ref a_t_text, .int t_length, .ref a_t_passing, .int t_at_r10, .int t_fault_l5, .int t_open_l5, .int t_asked, .int t_byGun, .int t_prizeMost, .ref a_t_order, .ref a_t_times, .int t_listed])), (a_t_text, .inl (cB, 200, .inl t_text))] H := hP
        have hD : va_D A [(a_t_now, .inl (cI, 1562, .inl t_now)), (a_t, .inr (11, [.int t_thrown, .ref a_t_now, .ref a_t_kept, .int t_isKept, .ref a_t_text, .int t_length, .ref a_t_passing, .int t_at_r10, .int t_fault_l5, .int t_open_l5, .int t_asked, .int t_byGun, .int t_prizeMost, .ref a_t_order, .ref a_t_times, .int t_listed])), (a_t_text, .inl (cB, 200, .inl t_text))] := hD
        refine lv_bipush (v := (nI 38)) hx hb dX11_part_16 rfl ?_
        refine lv_icmp_ne (tgt := 53) hx hb dX11_part_18 (by decide) (fun c12 => ?_) (fun c12 => ?_)
        · have h := zz_f h c12
          exact X5_53 v1_5 t_at_r10 t_fault_l5 t_open_l5 _ _ _ h (hP.sub [1, 0, 2] rfl) (hD.sub [1, 0, 2] rfl rfl) hS (lv_sub hl [0, 1] rfl)
        · have h := zz_t h c12
          refine lv_aload_n hx hb dX11_part_21 rfl (lv_at hl 1 rfl) ?_
          refine lv_dup hx hb dX11_part_22 rfl ?_
          refine va_get (D := D) (ci := 11) (C := RX11) (T := TX11) (N := 16) hx hb hts qX11_part_X11 hown hK hP 1 rfl rfl 7 (by decide) (hts _ kX11_part_0) (fun _ h9 => h9) rfl dX11_part_23 ?_
          refine lv_iconst (v := (nI 1)) hx hb dX11_part_26 rfl ?_
          refine lv_iadd hx hb dX11_part_27 ?_
          refine va_put (D := D) (ci := 11) (ty := .int) (C := RX11) (T := TX11) (N := 16) hx hb hts qX11_part_X11 tyX11 tyX11_ok nmX11 hown hK hP hD hS 1 rfl rfl 7 (by decide) (hts _ kX11_part_0) (fun _ h9 => h9) rfl (by decide +kernel) rfl (by first | rfl | exact zz_fit) (Nat.le_of_ble_eq_true rfl) dX11_part_28 (fun H locs hP hD hS => ?_)
          have hP : va_P D vwCl [(a_t_now, .inl (cI, 1562, .inl t_now)), (a_t, .inr (11, [.int t_thrown, .ref a_t_now, .ref a_t_kept, .int t_isKept, .ref a_t_text, .int t_length, .ref a_t_passing, .int (t_at_r10 + (nI 1)), .int t_fault_l5, .int t_open_l5, .int t_asked, .int t_byGun, .int t_prizeMost, .ref a_t_order, .ref a_t_times, .int t_listed])), (a_t_text, .inl (cB, 200, .inl t_text))] H := hP
          have hD : va_D A [(a_t_now, .inl (cI, 1562, .inl t_now)), (a_t, .inr (11, [.int t_thrown, .ref a_t_now, .ref a_t_kept, .int t_isKept, .ref a_t_text, .int t_length, .ref a_t_passing, .int (t_at_r10 + (nI 1)), .int t_fault_l5, .int t_open_l5, .int t_asked, .int t_byGun, .int t_prizeMost, .ref a_t_order, .ref a_t_times, .int t_listed])), (a_t_text, .inl (cB, 200, .inl t_text))] := hD
          refine lv_aload_n hx hb dX11_part_31 rfl (lv_at hl 1 rfl) ?_
          obtain ⟨⟨b13, t_at_r14, t_fault_r15, t_open_r16⟩, e17, h⟩ := zz_b h
          dsimp only at h
          refine zVi (As := []) (rest := []) (C := RX11) (wr := []) [1, 0, 2] [] 0 ⟨hx, hb, hml, hown, hts⟩ (mX11_unit_0 l D cB cI cZ a_t a_t_now a_t_kept a_t_text a_t_passing a_t_order a_t_times t_thrown t_isKept t_length (t_at_r10 + (nI 1)) t_fault_l5 t_open_l5 t_asked t_byGun t_prizeMost t_listed t_now t_text H.size N T hT b13 t_at_r14 t_fault_r15 t_open_r16 e17) (cwV 0 hts gX11_part_X11_unit rfl rfl rfl (by decide +kernel) ⟨Nat.le_of_ble_eq_true rfl, Nat.le_of_ble_eq_true rfl⟩) hK hN hZ hP hD hS hA rfl rfl rfl rfl rfl rfl rfl rfl hl.1 rfl (lv_room (Nat.le_of_ble_eq_true rfl)) dX11_part_32 ⟨Nat.le_of_ble_eq_true rfl, Nat.le_of_ble_eq_true rfl⟩ (fun H locs hP hD hS => ?_)
          have hP : va_P D vwCl [(a_t, .inr (11, [.int t_thrown, .ref a_t_now, .ref a_t_kept, .int t_isKept, .ref a_t_text, .int t_length, .ref a_t_passing, .int t_at_r14, .int t_fault_r15, .int t_open_r16, .int t_asked, .int t_byGun, .int t_prizeMost, .ref a_t_order, .ref a_t_times, .int t_listed])), (a_t_now, .inl (cI, 1562, .inl t_now)), (a_t_text, .inl (cB, 200, .inl t_text))] H := hP
          have hD : va_D A [(a_t, .inr (11, [.int t_thrown, .ref a_t_now, .ref a_t_kept, .int t_isKept, .ref a_t_text, .int t_length, .ref a_t_passing, .int t_at_r14, .int t_fault_r15, .int t_open_r16, .int t_asked, .int t_byGun, .int t_prizeMost, .ref a_t_order, .ref a_t_times, .int t_listed])), (a_t_now, .inl (cI, 1562, .inl t_now)), (a_t_text, .inl (cB, 200, .inl t_text))] := hD
          refine lv_istore_n (lv' := [(2, .int (zb b13)), (1, .int (zb v1_5)), (0, .ref a_t)]) hx hb dX11_part_35 rfl hl (by decide) rfl (fun ls hl => ?_)
          refine lv_iload_n hx hb dX11_part_36 rfl (lv_at hl 1 rfl) ?_
          refine lv_if_eq (tgt := 48) hx hb dX11_part_37 (by decide) (fun c18 => ?_) (fun c18 => ?_)
          · have h := zz_t h c18
            refine lv_iconst (v := (nI 0)) hx hb dX11_part_48 rfl ?_
            refine lv_istore_n (lv' := [(1, .int (nI 0)), (2, .int (zb b13)), (0, .ref a_t)]) hx hb dX11_part_49 rfl hl (by decide) rfl (fun ls hl => ?_)
            refine lv_goto (tgt := 5) hx hb dX11_part_50 (by decide) ?_
            exact ih5 false t_at_r14 t_fault_r15 t_open_r16 _ _ _ h (hP.sub [0, 1, 2] rfl) (hD.sub [0, 1, 2] rfl rfl) hS (lv_sub hl [0, 2] rfl)
          · have h := zz_f h c18
            refine lv_iload_n hx hb dX11_part_40 rfl (lv_at hl 0 rfl) ?_
            refine lv_if_eq (tgt := 48) hx hb dX11_part_41 (by decide) (fun c19 => ?_) (fun c19 => ?_)
            · have h := zz_t h c19
              refine lv_iconst (v := (nI 0)) hx hb dX11_part_48 rfl ?_
              refine lv_istore_n (lv' := [(1, .int (nI 0)), (2, .int (zb b13)), (0, .ref a_t)]) hx hb dX11_part_49 rfl hl (by decide) rfl (fun ls hl => ?_)
              refine lv_goto (tgt := 5) hx hb dX11_part_50 (by decide) ?_
              exact ih5 false t_at_r14 t_fault_r15 t_open_r16 _ _ _ h (hP.sub [0, 1, 2] rfl) (hD.sub [0, 1, 2] rfl rfl) hS (lv_sub hl [0, 2] rfl)
            · have h := zz_f h c19
              refine lv_iconst (v := (nI 1)) hx hb dX11_part_44 rfl ?_
              refine lv_goto (tgt := 49) hx hb dX11_part_45 (by decide) ?_
              refine lv_istore_n (lv' := [(1, .int (nI 1)), (2, .int (zb b13)), (0, .ref a_t)]) hx hb dX11_part_49 rfl hl (by decide) rfl (fun ls hl => ?_)
              refine lv_goto (tgt := 5) hx hb dX11_part_50 (by decide) ?_
              exact ih5 true t_at_r14 t_fault_r15 t_open_r16 _ _ _ h (hP.sub [0, 1, 2] rfl) (hD.sub [0, 1, 2] rfl rfl) hS (lv_sub hl [0, 2] rfl)
  exact L5 N b1 t_at_r2 t_fault_r3 t_open_r4 _ _ _ h hP hD hS hl
set_option maxHeartbeats 4000000 in
set_option maxRecDepth 100000 in
theorem mX11_tests_0 (l : Launch) (D : va_G) (cB cI cZ : ClassId) (a_t : Nat) (a_t_now : Nat) (a_t_kept : Nat) (a_t_text : Nat) (a_t_passing : Nat) (a_t_order : Nat) (a_t_times : Nat) (t_thrown : Int32) (t_isKept : Int32) (t_length : Int32) (t_at : Int32) (t_fault : Int32) (t_open : Int32) (t_asked : Int32) (t_byGun : Int32) (t_prizeMost : Int32) (t_listed : Int32) (t_now : Nat → Int32) (t_text : Nat → Int32) (sz : Nat) (N : Nat) (b0 : Bool) (t_at' : Int32) (t_fault' : Int32) (t_open' : Int32) (h : fX11_testsD N 1 t_asked t_at t_fault t_length t_open t_now t_text = some (b0, t_at', t_fault', t_open')) : Met l yX11_tests wsX11_tests ({ frames := 4, cells := 0, slots := 0, locals := 89 } : Room) (va_Pc [.ref a_t] (zPre D (zT cB cI cZ) [(a_t, .inr (11, [.int t_thrown, .ref a_t_now, .ref a_t_kept, .int t_isKept, .ref a_t_text, .int t_length, .ref a_t_passing, .int t_at, .int t_fault, .int t_open, .int t_asked, .int t_byGun, .int t_prizeMost, .ref a_t_order, .ref a_t_times, .int t_listed])), (a_t_now, .inl (cI, 1562, .inl t_now)), (a_t_text, .inl (cB, 200, .inl t_text))] sz)) (zQi (zb b0) D (zT cB cI cZ) [(a_t, .inr (11, [.int t_thrown, .ref a_t_now, .ref a_t_kept, .int t_isKept, .ref a_t_text, .int t_length, .ref a_t_passing, .int t_at', .int t_fault', .int t_open', .int t_asked, .int t_byGun, .int t_prizeMost, .ref a_t_order, .ref a_t_times, .int t_listed])), (a_t_now, .inl (cI, 1562, .inl t_now)), (a_t_text, .inl (cB, 200, .inl t_text))] (va_A [(a_t, .inr (11, [.int t_thrown, .ref a_t_now, .ref a_t_kept, .int t_isKept, .ref a_t_text, .int t_length, .ref a_t_passing, .int t_at, .int t_fault, .int t_open, .int t_asked, .int t_byGun, .int t_prizeMost, .ref a_t_order, .ref a_t_times, .int t_listed])), (a_t_now, .inl (cI, 1562, .inl t_now)), (a_t_text, .inl (cB, 200, .inl t_text))] sz)) 0 0 (va_A [(a_t, .inr (11, [.int t_thrown, .ref a_t_now, .ref a_t_kept, .int t_isKept, .ref a_t_text, .int t_length, .ref a_t_passing, .int t_at, .int t_fault, .int t_open, .int t_asked, .int t_byGun, .int t_prizeMost, .ref a_t_order, .ref a_t_times, .int t_listed])), (a_t_now, .inl (cI, 1562, .inl t_now)), (a_t_text, .inl (cB, 200, .inl t_text))] sz) := by
  refine Met.ofW (cc := cX11_tests) (maxL := 3) (ret := (some .boolean)) (by decide) rfl ?_
  intro p e s m args below meth c s₁ B hml hv
  obtain ⟨rfl, hsz, hP, hK, hN, hZ, hD0⟩ := hv
  have hx := B.exec
  have hb := B.bytes
  have hr := B.returns
  have hts := atoms_spec (ws := wsX11_tests) B.pre
  have hown : s.vm.findClass RX11 = some m.cls := findClass_of_methodNamed B.named
  have hlocks := B.notSynchronized
  subst hsz
  have hD := hD0.self (sz := s.heap.size)
  generalize hAe : va_A [(a_t, .inr (11, [.int t_thrown, .ref a_t_now, .ref a_t_kept, .int t_isKept, .ref a_t_text, .int t_length, .ref a_t_passing, .int t_at, .int t_fault, .int t_open, .int t_asked, .int t_byGun, .int t_prizeMost, .ref a_t_order, .ref a_t_times, .int t_listed])), (a_t_now, .inl (cI, 1562, .inl t_now)), (a_t_text, .inl (cB, 200, .inl t_text))] s.heap.size = A at hD hZ ⊢
  have hA : ∀ q : Nat, s.heap.size ≤ q → A q := fun q h => by rw [← hAe]; exact Or.inr h
  have hS : va_S A s.heap s.heap [] := va_S.rf
  have hl := lv_entry ([.ref a_t]) (n := 3) (Nat.le_of_ble_eq_true rfl)
  rw [lg_entry_eq]
  generalize (lg_sl ([.ref a_t]) ++ List.replicate (3 - (lg_sl ([.ref a_t])).length) Slot.unset).toArray = ls at hl ⊢
  have hl : lv_has ls 3 [(0, .ref a_t)] := hl
  obtain ⟨T, hT⟩ : ∃ T, T = fX11_testsD N 0 := ⟨_, rfl⟩; have h : fX11_tests_ T N t_asked t_at t_fault t_length t_open t_now t_text = some (b0, t_at', t_fault', t_open') := by rw [hT]; exact h
  unfold fX11_tests_ at h
  refine lv_aload_n hx hb dX11_tests_0 rfl (lv_at hl 0 rfl) ?_
  obtain ⟨⟨b1, t_at_r2, t_fault_r3, t_open_r4⟩, e5, h⟩ := zz_b h
  dsimp only at h
  refine zVi (As := []) (rest := []) (C := RX11) (wr := []) [0, 1, 2] [] 0 ⟨hx, hb, hml, hown, hts⟩ (mX11_part_0 l D cB cI cZ a_t a_t_now a_t_kept a_t_text a_t_passing a_t_order a_t_times t_thrown t_isKept t_length t_at t_fault t_open t_asked t_byGun t_prizeMost t_listed t_now t_text s.heap.size N T hT b1 t_at_r2 t_fault_r3 t_open_r4 e5) (cwV 0 hts gX11_tests_X11_part rfl rfl rfl (by decide +kernel) ⟨Nat.le_of_ble_eq_true rfl, Nat.le_of_ble_eq_true rfl⟩) hK hN hZ hP hD hS hA rfl rfl rfl rfl rfl rfl rfl rfl hl.1 rfl (lv_room (Nat.le_of_ble_eq_true rfl)) dX11_tests_1 ⟨Nat.le_of_ble_eq_true rfl, Nat.le_of_ble_eq_true rfl⟩ (fun H locs hP hD hS => ?_)
  have hP : va_P D vwCl [(a_t, .inr (11, [.int t_thrown, .ref a_t_now, .ref a_t_kept, .int t_isKept, .ref a_t_text, .int t_length, .ref a_t_passing, .int t_at_r2, .int t_fault_r3, .int t_open_r4, .int t_asked, .int t_byGun, .int t_prizeMost, .ref a_t_order, .ref a_t_times, .int t_listed])), (a_t_now, .inl (cI, 1562, .inl t_now)), (a_t_text, .inl (cB, 200, .inl t_text))] H := hP
  have hD : va_D A [(a_t, .inr (11, [.int t_thrown, .ref a_t_now, .ref a_t_kept, .int t_isKept, .ref a_t_text, .int t_length, .ref a_t_passing, .int t_at_r2, .int t_fault_r3, .int t_open_r4, .int t_asked, .int t_byGun, .int t_prizeMost, .ref a_t_order, .ref a_t_times, .int t_listed])), (a_t_now, .inl (cI, 1562, .inl t_now)), (a_t_text, .inl (cB, 200, .inl t_text))] := hD
  refine lv_istore_n (lv' := [(1, .int (zb b1)), (0, .ref a_t)]) hx hb dX11_tests_4 rfl hl (by decide) rfl (fun ls hl => ?_)
  have X5_53 : ∀ (v1_5 : Bool) (t_at_l5 : Int32) (t_fault_l5 : Int32) (t_open_l5 : Int32) (H : Heap) (locs : List Loc) (ls : Array Slot), some (v1_5, t_at_l5, t_fault_l5, t_open_l5) = some (b0, t_at', t_fault', t_open') → va_P D vwCl [(a_t, .inr (11, [.int t_thrown, .ref a_t_now, .ref a_t_kept, .int t_isKept, .ref a_t_text, .int t_length, .ref a_t_passing, .int t_at_l5, .int t_fault_l5, .int t_open_l5, .int t_asked, .int t_byGun, .int t_prizeMost, .ref a_t_order, .ref a_t_times, .int t_listed])), (a_t_now, .inl (cI, 1562, .inl t_now)), (a_t_text, .inl (cB, 200, .inl t_text))] H → va_D A [(a_t, .inr (11, [.int t_thrown, .ref a_t_now, .ref a_t_kept, .int t_isKept, .ref a_t_text, .int t_length, .ref a_t_passing, .int t_at_l5, .int t_fault_l5, .int t_open_l5, .int t_asked, .int t_byGun, .int t_prizeMost, .ref a_t_order, .ref a_t_times, .int t_listed])), (a_t_now, .inl (cI, 1562, .inl t_now)), (a_t_text, .inl (cB, 200, .inl t_text))] → va_S A s.heap H locs → lv_has ls 3 [(1, .int (zb v1_5)), (0, .ref a_t)] → W p l e (headSpec wsX11_tests ({ frames := 4, cells := 0, slots := 0, locals := 89 } : Room)).room s m #[Value.ref a_t] below meth c H locs 0 0 (MQ below (zQi (zb b0) D (zT cB cI cZ) [(a_t, .inr (11, [.int t_thrown, .ref a_t_now, .ref a_t_kept, .int t_isKept, .ref a_t_text, .int t_length, .ref a_t_passing, .int t_at', .int t_fault', .int t_open', .int t_asked, .int t_byGun, .int t_prizeMost, .ref a_t_order, .ref a_t_times, .int t_listed])), (a_t_now, .inl (cI, 1562, .inl t_now)), (a_t_text, .inl (cB, 200, .inl t_text))] A) #[Value.ref a_t] s 0 0 A) (F0 m 53 ls []) := by
    intro v1_5 t_at_l5 t_fault_l5 t_open_l5 H locs ls h hP hD hS hl
    refine lv_iload_n hx hb dX11_tests_53 rfl (lv_at hl 0 rfl) ?_
    obtain ⟨j0_, g_⟩ := Prod.mk.inj (Option.some.inj h)
    obtain ⟨j1_, g_⟩ := Prod.mk.inj g_
    obtain ⟨j2_, g_⟩ := Prod.mk.inj g_
    have j3_ := g_
    subst j0_
    subst j1_
    subst j2_
    subst j3_
    exact W.zret (v := (zb v1_5)) hx hb hr zz_n (fun t ht hW => ⟨⟨_, (), rfl, rfl, zPost.of hP hD hK ht hW [0, 1, 2] rfl rfl rfl⟩, hS.F ht⟩) hS.2.2 dX11_tests_54
  have L5 : ∀ (n : Nat) (v1_5 : Bool) (t_at_l5 : Int32) (t_fault_l5 : Int32) (t_open_l5 : Int32) (H : Heap) (locs : List Loc) (ls : Array Slot), fX11_tests_L5 N T t_length t_asked t_now t_text (fun (v1_5 : Bool) (t_at_l5 : Int32) (t_fault_l5 : Int32) (t_open_l5 : Int32) => some (v1_5, t_at_l5, t_fault_l5, t_open_l5)) n v1_5 t_at_l5 t_fault_l5 t_open_l5 = some (b0, t_at', t_fault', t_open') → va_P D vwCl [(a_t, .inr (11, [.int t_thrown, .ref a_t_now, .ref a_t_kept, .int t_isKept, .ref a_t_text, .int t_length, .ref a_t_passing, .int t_at_l5, .int t_fault_l5, .int t_open_l5, .int t_asked, .int t_byGun, .int t_prizeMost, .ref a_t_order, .ref a_t_times, .int t_listed])), (a_t_now, .inl (cI, 1562, .inl t_now)), (a_t_text, .inl (cB, 200, .inl t_text))] H → va_D A [(a_t, .inr (11, [.int t_thrown, .ref a_t_now, .ref a_t_kept, .int t_isKept, .ref a_t_text, .int t_length, .ref a_t_passing, .int t_at_l5, .int t_fault_l5, .int t_open_l5, .int t_asked, .int t_byGun, .int t_prizeMost, .ref a_t_order, .ref a_t_times, .int t_listed])), (a_t_now, .inl (cI, 1562, .inl t_now)), (a_t_text, .inl (cB, 200, .inl t_text))] → va_S A s.heap H locs → lv_has ls 3 [(1, .int (zb v1_5)), (0, .ref a_t)] → W p l e (headSpec wsX11_tests ({ frames := 4, cells := 0, slots := 0, locals := 89 } : Room)).room s m #[Value.ref a_t] below meth c H locs 0 0 (MQ below (zQi (zb b0) D (zT cB cI cZ) [(a_t, .inr (11, [.int t_thrown, .ref a_t_now, .ref a_t_kept, .int t_isKept, .ref a_t_text, .int t_length, .ref a_t_passing, .int t_at', .int t_fault', .int t_open', .int t_asked, .int t_byGun, .int t_prizeMost, .ref a_t_order, .ref a_t_times, .int t_listed])), (a_t_now, .inl (cI, 1562, .inl t_now)), (a_t_text, .inl (cB, 200, .inl t_text))] A) #[Value.ref a_t] s 0 0 A) (F0 m 5 ls []) := by
    intro n
    induction n with
    | zero => intro _ _ _ _ H locs ls h hP hD hS hl; cases h
    | succ n5 ih5 =>
      intro v1_5 t_at_l5 t_fault_l5 t_open_l5 H locs ls h hP hD hS hl
      rw [fX11_tests_L5.eq_2] at h
      refine lv_aload_n hx hb dX11_tests_5 rfl (lv_at hl 1 rfl) ?_
      obtain ⟨b6, e7, h⟩ := zz_b h
      refine zVi (As := []) (rest := []) (C := RX11) (wr := [(a_t_now, .inl (cI, 1562, .inl t_now)), (a_t_text, .inl (cB, 200, .inl t_text))]) [0] [1, 2] 0 ⟨hx, hb, hml, hown, hts⟩ (mX11_isFine l D cB cI cZ a_t a_t_now a_t_kept a_t_text a_t_passing a_t_order a_t_times t_thrown t_isKept t_length t_at_l5 t_fault_l5 t_open_l5 t_asked t_byGun t_prizeMost t_listed H.size b6 e7) (cwV 0 hts gX11_tests_X11_isFine rfl rfl rfl (by decide +kernel) ⟨Nat.le_of_ble_eq_true rfl, Nat.le_of_ble_eq_true rfl⟩) hK hN hZ hP hD hS hA rfl rfl rfl rfl rfl rfl rfl rfl hl.1 rfl (lv_room (Nat.le_of_ble_eq_true rfl)) dX11_tests_6 ⟨Nat.le_of_ble_eq_true rfl, Nat.le_of_ble_eq_true rfl⟩ (fun H locs hP hD hS => ?_)
      have hP : va_P D vwCl [(a_t_now, .inl (cI, 1562, .inl t_now)), (a_t_text, .inl (cB, 200, .inl t_text)), (a_t, .inr (11, [.int t_thrown, .ref a_t_now, .ref a_t_kept, .int t_isKept, .ref a_t_text, .int t_length, .ref a_t_passing, .int t_at_l5, .int t_fault_l5, .int t_open_l5, .int t_asked, .int t_byGun, .int t_prizeMost, .ref a_t_order, .ref a_t_times, .int t_listed]))] H := hP
      have hD : va_D A [(a_t_now, .inl (cI, 1562, .inl t_now)), (a_t_text, .inl (cB, 200, .inl t_text)), (a_t, .inr (11, [.int t_thrown, .ref a_t_now, .ref a_t_kept, .int t_isKept, .ref a_t_text, .int t_length, .ref a_t_passing, .int t_at_l5, .int t_fault_l5, .int t_open_l5, .int t_asked, .int t_byGun, .int t_prizeMost, .ref a_t_order, .ref a_t_times, .int t_listed]))] := hD
      refine lv_if_eq (tgt := 53) hx hb dX11_tests_9 (by decide) (fun c8 => ?_) (fun c8 => ?_)
      · have h := zz_t h c8
        exact X5_53 v1_5 t_at_l5 t_fault_l5 t_open_l5 _ _ _ h (hP.sub [2, 0, 1] rfl) (hD.sub [2, 0, 1] rfl rfl) hS (lv_sub hl [0, 1] rfl)
      · have h := zz_f h c8
        refine lv_aload_n hx hb dX11_tests_12 rfl (lv_at hl 1 rfl) ?_
        obtain ⟨⟨r9, t_at_r10⟩, e11, h⟩ := zz_b h
        dsimp only at h
        refine zVi (As := []) (rest := []) (C := RX11) (wr := [(a_t_now, .inl (cI, 1562, .inl t_now))]) [2, 1] [0] 0 ⟨hx, hb, hml, hown, hts⟩ (mX11_look l D cB cI cZ a_t a_t_now a_t_kept a_t_text a_t_passing a_t_order a_t_times t_thrown t_isKept t_length t_at_l5 t_fault_l5 t_open_l5 t_asked t_byGun t_prizeMost t_listed t_text H.size N r9 t_at_r10 e11) (cwV 0 hts gX11_tests_X11_look rfl rfl rfl (by decide +kernel) ⟨Nat.le_of_ble_eq_true rfl, Nat.le_of_ble_eq_true rfl⟩) hK hN hZ hP hD hS hA rfl rfl rfl rfl rfl rfl rfl rfl hl.1 rfl (lv_room (Nat.le_of_ble_eq_true rfl)) dX11_tests_13 ⟨Nat.le_of_ble_eq_true rfl, Nat.le_of_ble_eq_true rfl⟩ (fun H locs hP hD hS => ?_)
        have hP : va_P D vwCl [(a_t_now, .inl (cI, 1562, .inl t_now)), (a_t, .inr (11, [.int t_thrown, .ref a_t_now, .ref a_t_kept, .int t_isKept, .ref a_t_text, .int t_length, .ref a_t_passing, .int t_at_r10, .int t_fault_l5, .int t_open_l5, .int t_asked, .int t_byGun, .int t_prizeMost, .ref a_t_order, .ref a_t_times, .int t_listed])), (a_t_text, .inl (cB, 200, .inl t_text))] H := hP
        have hD : va_D A [(a_t_now, .inl (cI, 1562, .inl t_now)), (a_t, .inr (11, [.int t_thrown, .ref a_t_now, .ref a_t_kept, .int t_isKept, .ref a_t_text, .int t_length, .ref a_t_passing, .int t_at_r10, .int t_fault_l5, .int t_open_l5, .int t_asked, .int t_byGun, .int t_prizeMost, .ref a_t_order, .ref a_t_times, .int t_listed])), (a_t_text, .inl (cB, 200, .inl t_text))] := hD
        refine lv_bipush (v := (nI 124)) hx hb dX11_tests_16 rfl ?_
        refine lv_icmp_ne (tgt := 53) hx hb dX11_tests_18 (by decide) (fun c12 => ?_) (fun c12 => ?_)
        · have h := zz_f h c12
          exact X5_53 v1_5 t_at_r10 t_fault_l5 t_open_l5 _ _ _ h (hP.sub [1, 0, 2] rfl) (hD.sub [1, 0, 2] rfl rfl) hS (lv_sub hl [0, 1] rfl)
        · have h := zz_t h c12
          refine lv_aload_n hx hb dX11_tests_21 rfl (lv_at hl 1 rfl) ?_
          refine lv_dup hx hb dX11_tests_22 rfl ?_
          refine va_get (D := D) (ci := 11) (C := RX11) (T := TX11) (N := 16) hx hb hts qX11_tests_X11 hown hK hP 1 rfl rfl 7 (by decide) (hts _ kX11_tests_0) (fun _ h9 => h9) rfl dX11_tests_23 ?_
          refine lv_iconst (v := (nI 1)) hx hb dX11_tests_26 rfl ?_
          refine lv_iadd hx hb dX11_tests_27 ?_
          refine va_put (D := D) (ci := 11) (ty := .int) (C := RX11) (T := TX11) (N := 16) hx hb hts qX11_tests_X11 tyX11 tyX11_ok nmX11 hown hK hP hD hS 1 rfl rfl 7 (by decide) (hts _ kX11_tests_0) (fun _ h9 => h9) rfl (by decide +kernel) rfl (by first | rfl | exact zz_fit) (Nat.le_of_ble_eq_true rfl) dX11_tests_28 (fun H locs hP hD hS => ?_)
          have hP : va_P D vwCl [(a_t_now, .inl (cI, 1562, .inl t_now)), (a_t, .inr (11, [.int t_thrown, .ref a_t_now, .ref a_t_kept, .int t_isKept, .ref a_t_text, .int t_length, .ref a_t_passing, .int (t_at_r10 + (nI 1)), .int t_fault_l5, .int t_open_l5, .int t_asked, .int t_byGun, .int t_prizeMost, .ref a_t_order, .ref a_t_times, .int t_listed])), (a_t_text, .inl (cB, 200, .inl t_text))] H := hP
          have hD : va_D A [(a_t_now, .inl (cI, 1562, .inl t_now)), (a_t, .inr (11, [.int t_thrown, .ref a_t_now, .ref a_t_kept, .int t_isKept, .ref a_t_text, .int t_length, .ref a_t_passing, .int (t_at_r10 + (nI 1)), .int t_fault_l5, .int t_open_l5, .int t_asked, .int t_byGun, .int t_prizeMost, .ref a_t_order, .ref a_t_times, .int t_listed])), (a_t_text, .inl (cB, 200, .inl t_text))] := hD
          refine lv_aload_n hx hb dX11_tests_31 rfl (lv_at hl 1 rfl) ?_
          obtain ⟨⟨b13, t_at_r14, t_fault_r15, t_open_r16⟩, e17, h⟩ := zz_b h
          dsimp only at h
          refine zVi (As := []) (rest := []) (C := RX11) (wr := []) [1, 0, 2] [] 0 ⟨hx, hb, hml, hown, hts⟩ (mX11_part_0 l D cB cI cZ a_t a_t_now a_t_kept a_t_text a_t_passing a_t_order a_t_times t_thrown t_isKept t_length (t_at_r10 + (nI 1)) t_fault_l5 t_open_l5 t_asked t_byGun t_prizeMost t_listed t_now t_text H.size N T hT b13 t_at_r14 t_fault_r15 t_open_r16 e17) (cwV 0 hts gX11_tests_X11_part rfl rfl rfl (by decide +kernel) ⟨Nat.le_of_ble_eq_true rfl, Nat.le_of_ble_eq_true rfl⟩) hK hN hZ hP hD hS hA rfl rfl rfl rfl rfl rfl rfl rfl hl.1 rfl (lv_room (Nat.le_of_ble_eq_true rfl)) dX11_tests_32 ⟨Nat.le_of_ble_eq_true rfl, Nat.le_of_ble_eq_true rfl⟩ (fun H locs hP hD hS => ?_)
          have hP : va_P D vwCl [(a_t, .inr (11, [.int t_thrown, .ref a_t_now, .ref a_t_kept, .int t_isKept, .ref a_t_text, .int t_length, .ref a_t_passing, .int t_at_r14, .int t_fault_r15, .int t_open_r16, .int t_asked, .int t_byGun, .int t_prizeMost, .ref a_t_order, .ref a_t_times, .int t_listed])), (a_t_now, .inl (cI, 1562, .inl t_now)), (a_t_text, .inl (cB, 200, .inl t_text))] H := hP
          have hD : va_D A [(a_t, .inr (11, [.int t_thrown, .ref a_t_now, .ref a_t_kept, .int t_isKept, .ref a_t_text, .int t_length, .ref a_t_passing, .int t_at_r14, .int t_fault_r15, .int t_open_r16, .int t_asked, .int t_byGun, .int t_prizeMost, .ref a_t_order, .ref a_t_times, .int t_listed])), (a_t_now, .inl (cI, 1562, .inl t_now)), (a_t_text, .inl (cB, 200, .inl t_text))] := hD
          refine lv_istore_n (lv' := [(2, .int (zb b13)), (1, .int (zb v1_5)), (0, .ref a_t)]) hx hb dX11_tests_35 rfl hl (by decide) rfl (fun ls hl => ?_)
          refine lv_iload_n hx hb dX11_tests_36 rfl (lv_at hl 1 rfl) ?_
          refine lv_if_ne (tgt := 44) hx hb dX11_tests_37 (by decide) (fun c18 => ?_) (fun c18 => ?_)
          · have h := zz_f h c18
            refine lv_iconst (v := (nI 1)) hx hb dX11_tests_44 rfl ?_
            refine lv_goto (tgt := 49) hx hb dX11_tests_45 (by decide) ?_
            refine lv_istore_n (lv' := [(1, .int (nI 1)), (2, .int (zb b13)), (0, .ref a_t)]) hx hb dX11_tests_49 rfl hl (by decide) rfl (fun ls hl => ?_)
            refine lv_goto (tgt := 5) hx hb dX11_tests_50 (by decide) ?_
            exact ih5 true t_at_r14 t_fault_r15 t_open_r16 _ _ _ h (hP.sub [0, 1, 2] rfl) (hD.sub [0, 1, 2] rfl rfl) hS (lv_sub hl [0, 2] rfl)
          · have h := zz_t h c18
            refine lv_iload_n hx hb dX11_tests_40 rfl (lv_at hl 0 rfl) ?_
            refine lv_if_eq (tgt := 48) hx hb dX11_tests_41 (by decide) (fun c19 => ?_) (fun c19 => ?_)
            · have h := zz_t h c19
              refine lv_iconst (v := (nI 0)) hx hb dX11_tests_48 rfl ?_
              refine lv_istore_n (lv' := [(1, .int (nI 0)), (2, .int (zb b13)), (0, .ref a_t)]) hx hb dX11_tests_49 rfl hl (by decide) rfl (fun ls hl => ?_)
              refine lv_goto (tgt := 5) hx hb dX11_tests_50 (by decide) ?_
              exact ih5 false t_at_r14 t_fault_r15 t_open_r16 _ _ _ h (hP.sub [0, 1, 2] rfl) (hD.sub [0, 1, 2] rfl rfl) hS (lv_sub hl [0, 2] rfl)
            · have h := zz_f h c19
              refine lv_iconst (v := (nI 1)) hx hb dX11_tests_44 rfl ?_
              refine lv_goto (tgt := 49) hx hb dX11_tests_45 (by decide) ?_
              refine lv_istore_n (lv' := [(1, .int (nI 1)), (2, .int (zb b13)), (0, .ref a_t)]) hx hb dX11_tests_49 rfl hl (by decide) rfl (fun ls hl => ?_)
              refine lv_goto (tgt := 5) hx hb dX11_tests_50 (by decide) ?_
              exact ih5 true t_at_r14 t_fault_r15 t_open_r16 _ _ _ h (hP.sub [0, 1, 2] rfl) (hD.sub [0, 1, 2] rfl rfl) hS (lv_sub hl [0, 2] rfl)
  exact L5 N b1 t_at_r2 t_fault_r3 t_open_r4 _ _ _ h hP hD hS hl
set_option maxHeartbeats 4000000 in
set_option maxRecDepth 100000 in
theorem mX11_unit_1 (l : Launch) (D : va_G) (cB cI cZ : ClassId) (a_t : Nat) (a_t_now : Nat) (a_t_kept : Nat) (a_t_text : Nat) (a_t_passing : Nat) (a_t_order : Nat) (a_t_times : Nat) (t_thrown : Int32) (t_isKept : Int32) (t_length : Int32) (t_at : Int32) (t_fault : Int32) (t_open : Int32) (t_asked : Int32) (t_byGun : Int32) (t_prizeMost : Int32) (t_listed : Int32) (t_now : Nat → Int32) (t_text : Nat → Int32) (sz : Nat) (N : Nat) (T : Int32 → Int32 → Int32 → Int32 → Int32 → (Nat → Int32) → (Nat → Int32) → Option (Bool × Int32 × Int32 × Int32)) (hT : T = fX11_testsD N 1) (b0 : Bool) (t_at' : Int32) (t_fault' : Int32) (t_open' : Int32) (h : fX11_unit T N t_asked t_at t_fault t_length t_open t_now t_text = some (b0, t_at', t_fault', t_open')) : Met l yX11_unit wsX11_unit ({ frames := 5, cells := 0, slots := 0, locals := 111 } : Room) (va_Pc [.ref a_t] (zPre D (zT cB cI cZ) [(a_t, .inr (11, [.int t_thrown, .ref a_t_now, .ref a_t_kept, .int t_isKept, .ref a_t_text, .int t_length, .ref a_t_passing, .int t_at, .int t_fault, .int t_open, .int t_asked, .int t_byGun, .int t_prizeMost, .ref a_t_order, .ref a_t_times, .int t_listed])), (a_t_now, .inl (cI, 1562, .inl t_now)), (a_t_text, .inl (cB, 200, .inl t_text))] sz)) (zQi (zb b0) D (zT cB cI cZ) [(a_t, .inr (11, [.int t_thrown, .ref a_t_now, .ref a_t_kept, .int t_isKept, .ref a_t_text, .int t_length, .ref a_t_passing, .int t_at', .int t_fault', .int t_open', .int t_asked, .int t_byGun, .int t_prizeMost, .ref a_t_order, .ref a_t_times, .int t_listed])), (a_t_now, .inl (cI, 1562, .inl t_now)), (a_t_text, .inl (cB, 200, .inl t_text))] (va_A [(a_t, .inr (11, [.int t_thrown, .ref a_t_now, .ref a_t_kept, .int t_isKept, .ref a_t_text, .int t_length, .ref a_t_passing, .int t_at, .int t_fault, .int t_open, .int t_asked, .int t_byGun, .int t_prizeMost, .ref a_t_order, .ref a_t_times, .int t_listed])), (a_t_now, .inl (cI, 1562, .inl t_now)), (a_t_text, .inl (cB, 200, .inl t_text))] sz)) 0 0 (va_A [(a_t, .inr (11, [.int t_thrown, .ref a_t_now, .ref a_t_kept, .int t_isKept, .ref a_t_text, .int t_length, .ref a_t_passing, .int t_at, .int t_fault, .int t_open, .int t_asked, .int t_byGun, .int t_prizeMost, .ref a_t_order, .ref a_t_times, .int t_listed])), (a_t_now, .inl (cI, 1562, .inl t_now)), (a_t_text, .inl (cB, 200, .inl t_text))] sz) := by
  refine Met.ofW (cc := cX11_unit) (maxL := 6) (ret := (some .boolean)) (by decide) rfl ?_
  intro p e s m args below meth c s₁ B hml hv
  obtain ⟨rfl, hsz, hP, hK, hN, hZ, hD0⟩ := hv
  have hx := B.exec
  have hb := B.bytes
  have hr := B.returns
  have hts := atoms_spec (ws := wsX11_unit) B.pre
  have hown : s.vm.findClass RX11 = some m.cls := findClass_of_methodNamed B.named
  have hlocks := B.notSynchronized
  subst hsz
  have hD := hD0.self (sz := s.heap.size)
  generalize hAe : va_A [(a_t, .inr (11, [.int t_thrown, .ref a_t_now, .ref a_t_kept, .int t_isKept, .ref a_t_text, .int t_length, .ref a_t_passing, .int t_at, .int t_fault, .int t_open, .int t_asked, .int t_byGun, .int t_prizeMost, .ref a_t_order, .ref a_t_times, .int t_listed])), (a_t_now, .inl (cI, 1562, .inl t_now)), (a_t_text, .inl (cB, 200, .inl t_text))] s.heap.size = A at hD hZ ⊢
  have hA : ∀ q : Nat, s.heap.size ≤ q → A q := fun q h => by rw [← hAe]; exact Or.inr h
  have hS : va_S A s.heap s.heap [] := va_S.rf
  have hl := lv_entry ([.ref a_t]) (n := 6) (Nat.le_of_ble_eq_true rfl)
  rw [lg_entry_eq]
  generalize (lg_sl ([.ref a_t]) ++ List.replicate (6 - (lg_sl ([.ref a_t])).length) Slot.unset).toArray = ls at hl ⊢
  have hl : lv_has ls 6 [(0, .ref a_t)] := hl
  unfold fX11_unit at h
  refine lv_aload_n hx hb dX11_unit_0 rfl (lv_at hl 0 rfl) ?_
  obtain ⟨⟨r1, t_at_r2⟩, e3, h⟩ := zz_b h
  dsimp only at h
  refine zVi (As := []) (rest := []) (C := RX11) (wr := [(a_t_now, .inl (cI, 1562, .inl t_now))]) [0, 2] [1] 0 ⟨hx, hb, hml, hown, hts⟩ (mX11_look l D cB cI cZ a_t a_t_now a_t_kept a_t_text a_t_passing a_t_order a_t_times t_thrown t_isKept t_length t_at t_fault t_open t_asked t_byGun t_prizeMost t_listed t_text s.heap.size N r1 t_at_r2 e3) (cwV 0 hts gX11_unit_X11_look rfl rfl rfl (by decide +kernel) ⟨Nat.le_of_ble_eq_true rfl, Nat.le_of_ble_eq_true rfl⟩) hK hN hZ hP hD hS hA rfl rfl rfl rfl rfl rfl rfl rfl hl.1 rfl (lv_room (Nat.le_of_ble_eq_true rfl)) dX11_unit_1 ⟨Nat.le_of_ble_eq_true rfl, Nat.le_of_ble_eq_true rfl⟩ (fun H locs hP hD hS => ?_)
  have hP : va_P D vwCl [(a_t_now, .inl (cI, 1562, .inl t_now)), (a_t, .inr (11, [.int t_thrown, .ref a_t_now, .ref a_t_kept, .int t_isKept, .ref a_t_text, .int t_length, .ref a_t_passing, .int t_at_r2, .int t_fault, .int t_open, .int t_asked, .int t_byGun, .int t_prizeMost, .ref a_t_order, .ref a_t_times, .int t_listed])), (a_t_text, .inl (cB, 200, .inl t_text))] H := hP
  have hD : va_D A [(a_t_now, .inl (cI, 1562, .inl t_now)), (a_t, .inr (11, [.int t_thrown, .ref a_t_now, .ref a_t_kept, .int t_isKept, .ref a_t_text, .int t_length, .ref a_t_passing, .int t_at_r2, .int t_fault, .int t_open, .int t_asked, .int t_byGun, .int t_prizeMost, .ref a_t_order, .ref a_t_times, .int t_listed])), (a_t_text, .inl (cB, 200, .inl t_text))] := hD
  refine lv_istore_n (lv' := [(1, .int r1), (0, .ref a_t)]) hx hb dX11_unit_4 rfl hl (by decide) rfl (fun ls hl => ?_)
  refine lv_iload_n hx hb dX11_unit_5 rfl (lv_at hl 0 rfl) ?_
  refine lv_bipush (v := (nI 40)) hx hb dX11_unit_6 rfl ?_
  refine lv_icmp_ne (tgt := 69) hx hb dX11_unit_8 (by decide) (fun c4 => ?_) (fun c4 => ?_)
  · have h := zz_f h c4
    refine lv_iload_n hx hb dX11_unit_69 rfl (lv_at hl 0 rfl) ?_
    refine lv_bipush (v := (nI 115)) hx hb dX11_unit_70 rfl ?_
    have J120 : ∀ (s0_j120 : Int32) (H : Heap) (locs : List Loc) (ls : Array Slot), fX11_unit_J120 N t_length t_fault t_open t_asked t_now t_text t_at_r2 s0_j120 = some (b0, t_at', t_fault', t_open') → va_P D vwCl [(a_t_now, .inl (cI, 1562, .inl t_now)), (a_t, .inr (11, [.int t_thrown, .ref a_t_now, .ref a_t_kept, .int t_isKept, .ref a_t_text, .int t_length, .ref a_t_passing, .int t_at_r2, .int t_fault, .int t_open, .int t_asked, .int t_byGun, .int t_prizeMost, .ref a_t_order, .ref a_t_times, .int t_listed])), (a_t_text, .inl (cB, 200, .inl t_text))] H → va_D A [(a_t_now, .inl (cI, 1562, .inl t_now)), (a_t, .inr (11, [.int t_thrown, .ref a_t_now, .ref a_t_kept, .int t_isKept, .ref a_t_text, .int t_length, .ref a_t_passing, .int t_at_r2, .int t_fault, .int t_open, .int t_asked, .int t_byGun, .int t_prizeMost, .ref a_t_order, .ref a_t_times, .int t_listed])), (a_t_text, .inl (cB, 200, .inl t_text))] → va_S A s.heap H locs → lv_has ls 6 [(1, .int r1), (0, .ref a_t)] → W p l e (headSpec wsX11_unit ({ frames := 5, cells := 0, slots := 0, locals := 111 } : Room)).room s m #[Value.ref a_t] below meth c H locs 0 0 (MQ below (zQi (zb b0) D (zT cB cI cZ) [(a_t, .inr (11, [.int t_thrown, .ref a_t_now, .ref a_t_kept, .int t_isKept, .ref a_t_text, .int t_length, .ref a_t_passing, .int t_at', .int t_fault', .int t_open', .int t_asked, .int t_byGun, .int t_prizeMost, .ref a_t_order, .ref a_t_times, .int t_listed])), (a_t_now, .inl (cI, 1562, .inl t_now)), (a_t_text, .inl (cB, 200, .inl t_text))] A) #[Value.ref a_t] s 0 0 A) (F0 m 120 ls [.int s0_j120]) := by
      intro s0_j120 H locs ls h hP hD hS hl
      unfold fX11_unit_J120 at h
      refine lv_istore_n (lv' := [(2, .int s0_j120), (1, .int r1), (0, .ref a_t)]) hx hb dX11_unit_120 rfl hl (by decide) rfl (fun ls hl => ?_)
      refine lv_iload_n hx hb dX11_unit_121 rfl (lv_at hl 0 rfl) ?_
      refine lv_iconst (v := (-1 : Int32)) hx hb dX11_unit_122 rfl ?_
      refine lv_icmp_ne (tgt := 132) hx hb dX11_unit_123 (by decide) (fun c5 => ?_) (fun c5 => ?_)
      · have h := zz_f h c5
        refine lv_aload_n hx hb dX11_unit_132 rfl (lv_at hl 2 rfl) ?_
        refine lv_dup hx hb dX11_unit_133 rfl ?_
        refine va_get (D := D) (ci := 11) (C := RX11) (T := TX11) (N := 16) hx hb hts qX11_unit_X11 hown hK hP 1 rfl rfl 7 (by decide) (hts _ kX11_unit_0) (fun _ h9 => h9) rfl dX11_unit_134 ?_
        refine lv_iconst (v := (nI 1)) hx hb dX11_unit_137 rfl ?_
        refine lv_iadd hx hb dX11_unit_138 ?_
        refine va_put (D := D) (ci := 11) (ty := .int) (C := RX11) (T := TX11) (N := 16) hx hb hts qX11_unit_X11 tyX11 tyX11_ok nmX11 hown hK hP hD hS 1 rfl rfl 7 (by decide) (hts _ kX11_unit_0) (fun _ h9 => h9) rfl (by decide +kernel) rfl (by first | rfl | exact zz_fit) (Nat.le_of_ble_eq_true rfl) dX11_unit_139 (fun H locs hP hD hS => ?_)
        have hP : va_P D vwCl [(a_t_now, .inl (cI, 1562, .inl t_now)), (a_t, .inr (11, [.int t_thrown, .ref a_t_now, .ref a_t_kept, .int t_isKept, .ref a_t_text, .int t_length, .ref a_t_passing, .int (t_at_r2 + (nI 1)), .int t_fault, .int t_open, .int t_asked, .int t_byGun, .int t_prizeMost, .ref a_t_order, .ref a_t_times, .int t_listed])), (a_t_text, .inl (cB, 200, .inl t_text))] H := hP
        have hD : va_D A [(a_t_now, .inl (cI, 1562, .inl t_now)), (a_t, .inr (11, [.int t_thrown, .ref a_t_now, .ref a_t_kept, .int t_isKept, .ref a_t_text, .int t_length, .ref a_t_passing, .int (t_at_r2 + (nI 1)), .int t_fault, .int t_open, .int t_asked, .int t_byGun, .int t_prizeMost, .ref a_t_order, .ref a_t_times, .int t_listed])), (a_t_text, .inl (cB, 200, .inl t_text))] := hD
        refine lv_aload_n hx hb dX11_unit_142 rfl (lv_at hl 2 rfl) ?_
        obtain ⟨⟨r6, t_at_r7⟩, e8, h⟩ := zz_b h
        dsimp only at h
        refine zVi (As := []) (rest := []) (C := RX11) (wr := [(a_t_now, .inl (cI, 1562, .inl t_now))]) [1, 2] [0] 0 ⟨hx, hb, hml, hown, hts⟩ (mX11_look l D cB cI cZ a_t a_t_now a_t_kept a_t_text a_t_passing a_t_order a_t_times t_thrown t_isKept t_length (t_at_r2 + (nI 1)) t_fault t_open t_asked t_byGun t_prizeMost t_listed t_text H.size N r6 t_at_r7 e8) (cwV 0 hts gX11_unit_X11_look rfl rfl rfl (by decide +kernel) ⟨Nat.le_of_ble_eq_true rfl, Nat.le_of_ble_eq_true rfl⟩) hK hN hZ hP hD hS hA rfl rfl rfl rfl rfl rfl rfl rfl hl.1 rfl (lv_room (Nat.le_of_ble_eq_true rfl)) dX11_unit_143 ⟨Nat.le_of_ble_eq_true rfl, Nat.le_of_ble_eq_true rfl⟩ (fun H locs hP hD hS => ?_)
        have hP : va_P D vwCl [(a_t_now, .inl (cI, 1562, .inl t_now)), (a_t, .inr (11, [.int t_thrown, .ref a_t_now, .ref a_t_kept, .int t_isKept, .ref a_t_text, .int t_length, .ref a_t_passing, .int t_at_r7, .int t_fault, .int t_open, .int t_asked, .int t_byGun, .int t_prizeMost, .ref a_t_order, .ref a_t_times, .int t_listed])), (a_t_text, .inl (cB, 200, .inl t_text))] H := hP
        have hD : va_D A [(a_t_now, .inl (cI, 1562, .inl t_now)), (a_t, .inr (11, [.int t_thrown, .ref a_t_now, .ref a_t_kept, .int t_isKept, .ref a_t_text, .int t_length, .ref a_t_passing, .int t_at_r7, .int t_fault, .int t_open, .int t_asked, .int t_byGun, .int t_prizeMost, .ref a_t_order, .ref a_t_times, .int t_listed])), (a_t_text, .inl (cB, 200, .inl t_text))] := hD
        refine lv_istore_n (lv' := [(3, .int r6), (2, .int s0_j120), (1, .int r1), (0, .ref a_t)]) hx hb dX11_unit_146 rfl hl (by decide) rfl (fun ls hl => ?_)
        refine lv_iload_n hx hb dX11_unit_147 rfl (lv_at hl 0 rfl) ?_
        refine lv_bipush (v := (nI 61)) hx hb dX11_unit_148 rfl ?_
        have J171 : ∀ (H : Heap) (locs : List Loc) (ls : Array Slot), fX11_unit_J171 N t_length t_fault t_open t_asked t_now t_text s0_j120 r6 t_at_r7 = some (b0, t_at', t_fault', t_open') → va_P D vwCl [(a_t_now, .inl (cI, 1562, .inl t_now)), (a_t, .inr (11, [.int t_thrown, .ref a_t_now, .ref a_t_kept, .int t_isKept, .ref a_t_text, .int t_length, .ref a_t_passing, .int t_at_r7, .int t_fault, .int t_open, .int t_asked, .int t_byGun, .int t_prizeMost, .ref a_t_order, .ref a_t_times, .int t_listed])), (a_t_text, .inl (cB, 200, .inl t_text))] H → va_D A [(a_t_now, .inl (cI, 1562, .inl t_now)), (a_t, .inr (11, [.int t_thrown, .ref a_t_now, .ref a_t_kept, .int t_isKept, .ref a_t_text, .int t_length, .ref a_t_passing, .int t_at_r7, .int t_fault, .int t_open, .int t_asked, .int t_byGun, .int t_prizeMost, .ref a_t_order, .ref a_t_times, .int t_listed])), (a_t_text, .inl (cB, 200, .inl t_text))] → va_S A s.heap H locs → lv_has ls 6 [(3, .int r6), (2, .int s0_j120), (1, .int r1), (0, .ref a_t)] → W p l e (headSpec wsX11_unit ({ frames := 5, cells := 0, slots := 0, locals := 111 } : Room)).room s m #[Value.ref a_t] below meth c H locs 0 0 (MQ below (zQi (zb b0) D (zT cB cI cZ) [(a_t, .inr (11, [.int t_thrown, .ref a_t_now, .ref a_t_kept, .int t_isKept, .ref a_t_text, .int t_length, .ref a_t_passing, .int t_at', .int t_fault', .int t_open', .int t_asked, .int t_byGun, .int t_prizeMost, .ref a_t_order, .ref a_t_times, .int t_listed])), (a_t_now, .inl (cI, 1562, .inl t_now)), (a_t_text, .inl (cB, 200, .inl t_text))] A) #[Value.ref a_t] s 0 0 A) (F0 m 171 ls []) := by
          intro  H locs ls h hP hD hS hl
          unfold fX11_unit_J171 at h
          refine lv_aload_n hx hb dX11_unit_171 rfl (lv_at hl 3 rfl) ?_
          refine lv_dup hx hb dX11_unit_172 rfl ?_
          refine va_get (D := D) (ci := 11) (C := RX11) (T := TX11) (N := 16) hx hb hts qX11_unit_X11 hown hK hP 1 rfl rfl 7 (by decide) (hts _ kX11_unit_0) (fun _ h9 => h9) rfl dX11_unit_173 ?_
          refine lv_iconst (v := (nI 1)) hx hb dX11_unit_176 rfl ?_
          refine lv_iadd hx hb dX11_unit_177 ?_
          refine va_put (D := D) (ci := 11) (ty := .int) (C := RX11) (T := TX11) (N := 16) hx hb hts qX11_unit_X11 tyX11 tyX11_ok nmX11 hown hK hP hD hS 1 rfl rfl 7 (by decide) (hts _ kX11_unit_0) (fun _ h9 => h9) rfl (by decide +kernel) rfl (by first | rfl | exact zz_fit) (Nat.le_of_ble_eq_true rfl) dX11_unit_178 (fun H locs hP hD hS => ?_)
          have hP : va_P D vwCl [(a_t_now, .inl (cI, 1562, .inl t_now)), (a_t, .inr (11, [.int t_thrown, .ref a_t_now, .ref a_t_kept, .int t_isKept, .ref a_t_text, .int t_length, .ref a_t_passing, .int (t_at_r7 + (nI 1)), .int t_fault, .int t_open, .int t_asked, .int t_byGun, .int t_prizeMost, .ref a_t_order, .ref a_t_times, .int t_listed])), (a_t_text, .inl (cB, 200, .inl t_text))] H := hP
          have hD : va_D A [(a_t_now, .inl (cI, 1562, .inl t_now)), (a_t, .inr (11, [.int t_thrown, .ref a_t_now, .ref a_t_kept, .int t_isKept, .ref a_t_text, .int t_length, .ref a_t_passing, .int (t_at_r7 + (nI 1)), .int t_fault, .int t_open, .int t_asked, .int t_byGun, .int t_prizeMost, .ref a_t_order, .ref a_t_times, .int t_listed])), (a_t_text, .inl (cB, 200, .inl t_text))] := hD
          refine lv_aload_n hx hb dX11_unit_181 rfl (lv_at hl 3 rfl) ?_
          obtain ⟨⟨r9, t_at_r10, t_fault_r11⟩, e12, h⟩ := zz_b h
          dsimp only at h
          refine zVi (As := []) (rest := []) (C := RX11) (wr := [(a_t_now, .inl (cI, 1562, .inl t_now))]) [1, 2] [0] 0 ⟨hx, hb, hml, hown, hts⟩ (mX11_number l D cB cI cZ a_t a_t_now a_t_kept a_t_text a_t_passing a_t_order a_t_times t_thrown t_isKept t_length (t_at_r7 + (nI 1)) t_fault t_open t_asked t_byGun t_prizeMost t_listed t_text H.size N r9 t_at_r10 t_fault_r11 e12) (cwV 0 hts gX11_unit_X11_number rfl rfl rfl (by decide +kernel) ⟨Nat.le_of_ble_eq_true rfl, Nat.le_of_ble_eq_true rfl⟩) hK hN hZ hP hD hS hA rfl rfl rfl rfl rfl rfl rfl rfl hl.1 rfl (lv_room (Nat.le_of_ble_eq_true rfl)) dX11_unit_182 ⟨Nat.le_of_ble_eq_true rfl, Nat.le_of_ble_eq_true rfl⟩ (fun H locs hP hD hS => ?_)
          have hP : va_P D vwCl [(a_t_now, .inl (cI, 1562, .inl t_now)), (a_t, .inr (11, [.int t_thrown, .ref a_t_now, .ref a_t_kept, .int t_isKept, .ref a_t_text, .int t_length, .ref a_t_passing, .int t_at_r10, .int t_fault_r11, .int t_open, .int t_asked, .int t_byGun, .int t_prizeMost, .ref a_t_order, .ref a_t_times, .int t_listed])), (a_t_text, .inl (cB, 200, .inl t_text))] H := hP
          have hD : va_D A [(a_t_now, .inl (cI, 1562, .inl t_now)), (a_t, .inr (11, [.int t_thrown, .ref a_t_now, .ref a_t_kept, .int t_isKept, .ref a_t_text, .int t_length, .ref a_t_passing, .int t_at_r10, .int t_fault_r11, .int t_open, .int t_asked, .int t_byGun, .int t_prizeMost, .ref a_t_order, .ref a_t_times, .int t_listed])), (a_t_text, .inl (cB, 200, .inl t_text))] := hD
          refine lv_istore (lv' := [(4, .int r9), (3, .int r6), (2, .int s0_j120), (1, .int r1), (0, .ref a_t)]) hx hb dX11_unit_185 hl (by decide) rfl (fun ls hl => ?_)
          refine lv_aload_n hx hb dX11_unit_187 rfl (lv_at hl 4 rfl) ?_
          refine va_get (D := D) (ci := 11) (C := RX11) (T := TX11) (N := 16) hx hb hts qX11_unit_X11 hown hK hP 1 rfl rfl 10 (by decide) (hts _ kX11_unit_2) (fun _ h9 => h9) rfl dX11_unit_188 ?_
          refine lv_iconst (v := (-1 : Int32)) hx hb dX11_unit_191 rfl ?_
          refine lv_icmp_ne (tgt := 199) hx hb dX11_unit_192 (by decide) (fun c13 => ?_) (fun c13 => ?_)
          · have h := zz_f h c13
            refine lv_aload_n hx hb dX11_unit_199 rfl (lv_at hl 4 rfl) ?_
            refine lv_aload_n hx hb dX11_unit_200 rfl (lv_at hl 4 rfl) ?_
            refine va_get (D := D) (ci := 11) (C := RX11) (T := TX11) (N := 16) hx hb hts qX11_unit_X11 hown hK hP 1 rfl rfl 10 (by decide) (hts _ kX11_unit_2) (fun _ h9 => h9) rfl dX11_unit_201 ?_
            refine lv_iload_n hx hb dX11_unit_204 rfl (lv_at hl 2 rfl) ?_
            obtain ⟨r14, e15, h⟩ := zz_b h
            refine zVi (As := [.int t_asked, .int s0_j120]) (rest := []) (C := RX11) (wr := [(a_t_text, .inl (cB, 200, .inl t_text))]) [1, 0] [2] 0 ⟨hx, hb, hml, hown, hts⟩ (mX11_of l D cB cI cZ a_t a_t_now a_t_kept a_t_text a_t_passing a_t_order a_t_times t_thrown t_isKept t_length t_at_r10 t_fault_r11 t_open t_asked t_byGun t_prizeMost t_listed t_now H.size t_asked s0_j120 r14 e15) (cwV 2 hts gX11_unit_X11_of rfl rfl rfl (by decide +kernel) ⟨Nat.le_of_ble_eq_true rfl, Nat.le_of_ble_eq_true rfl⟩) hK hN hZ hP hD hS hA rfl rfl rfl rfl rfl rfl rfl rfl hl.1 rfl (lv_room (Nat.le_of_ble_eq_true rfl)) dX11_unit_205 ⟨Nat.le_of_ble_eq_true rfl, Nat.le_of_ble_eq_true rfl⟩ (fun H locs hP hD hS => ?_)
            have hP : va_P D vwCl [(a_t_text, .inl (cB, 200, .inl t_text)), (a_t, .inr (11, [.int t_thrown, .ref a_t_now, .ref a_t_kept, .int t_isKept, .ref a_t_text, .int t_length, .ref a_t_passing, .int t_at_r10, .int t_fault_r11, .int t_open, .int t_asked, .int t_byGun, .int t_prizeMost, .ref a_t_order, .ref a_t_times, .int t_listed])), (a_t_now, .inl (cI, 1562, .inl t_now))] H := hP
            have hD : va_D A [(a_t_text, .inl (cB, 200, .inl t_text)), (a_t, .inr (11, [.int t_thrown, .ref a_t_now, .ref a_t_kept, .int t_isKept, .ref a_t_text, .int t_length, .ref a_t_passing, .int t_at_r10, .int t_fault_r11, .int t_open, .int t_asked, .int t_byGun, .int t_prizeMost, .ref a_t_order, .ref a_t_times, .int t_listed])), (a_t_now, .inl (cI, 1562, .inl t_now))] := hD
            refine lv_istore (lv' := [(5, .int r14), (4, .int r9), (3, .int r6), (2, .int s0_j120), (1, .int r1), (0, .ref a_t)]) hx hb dX11_unit_208 hl (by decide) rfl (fun ls hl => ?_)
            refine lv_iload_n hx hb dX11_unit_210 rfl (lv_at hl 2 rfl) ?_
            refine lv_bipush (v := (nI 61)) hx hb dX11_unit_211 rfl ?_
            refine lv_icmp_ne (tgt := 231) hx hb dX11_unit_213 (by decide) (fun c16 => ?_) (fun c16 => ?_)
            · have h := zz_f h c16
              refine lv_iload_n hx hb dX11_unit_231 rfl (lv_at hl 2 rfl) ?_
              refine lv_bipush (v := (nI 60)) hx hb dX11_unit_232 rfl ?_
              refine lv_icmp_ne (tgt := 252) hx hb dX11_unit_234 (by decide) (fun c17 => ?_) (fun c17 => ?_)
              · have h := zz_f h c17
                refine lv_iload hx hb dX11_unit_252 (lv_at hl 0 rfl) ?_
                refine lv_iload hx hb dX11_unit_254 (lv_at hl 1 rfl) ?_
                refine lv_icmp_le (tgt := 263) hx hb dX11_unit_256 (by decide) (fun c18 => ?_) (fun c18 => ?_)
                · have h := zz_t h c18
                  refine lv_iconst (v := (nI 0)) hx hb dX11_unit_263 rfl ?_
                  obtain ⟨j0_, g_⟩ := Prod.mk.inj (Option.some.inj h)
                  obtain ⟨j1_, g_⟩ := Prod.mk.inj g_
                  obtain ⟨j2_, g_⟩ := Prod.mk.inj g_
                  have j3_ := g_
                  subst j0_
                  subst j1_
                  subst j2_
                  subst j3_
                  exact W.zret (v := (nI 0)) hx hb hr rfl (fun t ht hW => ⟨⟨_, (), rfl, rfl, zPost.of hP hD hK ht hW [1, 2, 0] rfl rfl rfl⟩, hS.F ht⟩) hS.2.2 dX11_unit_264
                · have h := zz_f h c18
                  refine lv_iconst (v := (nI 1)) hx hb dX11_unit_259 rfl ?_
                  refine lv_goto (tgt := 264) hx hb dX11_unit_260 (by decide) ?_
                  obtain ⟨j0_, g_⟩ := Prod.mk.inj (Option.some.inj h)
                  obtain ⟨j1_, g_⟩ := Prod.mk.inj g_
                  obtain ⟨j2_, g_⟩ := Prod.mk.inj g_
                  have j3_ := g_
                  subst j0_
                  subst j1_
                  subst j2_
                  subst j3_
                  exact W.zret (v := (nI 1)) hx hb hr rfl (fun t ht hW => ⟨⟨_, (), rfl, rfl, zPost.of hP hD hK ht hW [1, 2, 0] rfl rfl rfl⟩, hS.F ht⟩) hS.2.2 dX11_unit_264
              · have h := zz_t h c17
                refine lv_iload hx hb dX11_unit_237 (lv_at hl 0 rfl) ?_
                refine lv_iload hx hb dX11_unit_239 (lv_at hl 1 rfl) ?_
                refine lv_icmp_ge (tgt := 248) hx hb dX11_unit_241 (by decide) (fun c19 => ?_) (fun c19 => ?_)
                · have h := zz_t h c19
                  refine lv_iconst (v := (nI 0)) hx hb dX11_unit_248 rfl ?_
                  refine lv_goto (tgt := 264) hx hb dX11_unit_249 (by decide) ?_
                  obtain ⟨j0_, g_⟩ := Prod.mk.inj (Option.some.inj h)
                  obtain ⟨j1_, g_⟩ := Prod.mk.inj g_
                  obtain ⟨j2_, g_⟩ := Prod.mk.inj g_
                  have j3_ := g_
                  subst j0_
                  subst j1_
                  subst j2_
                  subst j3_
                  exact W.zret (v := (nI 0)) hx hb hr rfl (fun t ht hW => ⟨⟨_, (), rfl, rfl, zPost.of hP hD hK ht hW [1, 2, 0] rfl rfl rfl⟩, hS.F ht⟩) hS.2.2 dX11_unit_264
                · have h := zz_f h c19
                  refine lv_iconst (v := (nI 1)) hx hb dX11_unit_244 rfl ?_
                  refine lv_goto (tgt := 264) hx hb dX11_unit_245 (by decide) ?_
                  obtain ⟨j0_, g_⟩ := Prod.mk.inj (Option.some.inj h)
                  obtain ⟨j1_, g_⟩ := Prod.mk.inj g_
                  obtain ⟨j2_, g_⟩ := Prod.mk.inj g_
                  have j3_ := g_
                  subst j0_
                  subst j1_
                  subst j2_
                  subst j3_
                  exact W.zret (v := (nI 1)) hx hb hr rfl (fun t ht hW => ⟨⟨_, (), rfl, rfl, zPost.of hP hD hK ht hW [1, 2, 0] rfl rfl rfl⟩, hS.F ht⟩) hS.2.2 dX11_unit_264
            · have h := zz_t h c16
              refine lv_iload hx hb dX11_unit_216 (lv_at hl 0 rfl) ?_
              refine lv_iload hx hb dX11_unit_218 (lv_at hl 1 rfl) ?_
              refine lv_icmp_ne (tgt := 227) hx hb dX11_unit_220 (by decide) (fun c20 => ?_) (fun c20 => ?_)
              · have h := zz_f h c20
                refine lv_iconst (v := (nI 0)) hx hb dX11_unit_227 rfl ?_
                refine lv_goto (tgt := 264) hx hb dX11_unit_228 (by decide) ?_
                obtain ⟨j0_, g_⟩ := Prod.mk.inj (Option.some.inj h)
                obtain ⟨j1_, g_⟩ := Prod.mk.inj g_
                obtain ⟨j2_, g_⟩ := Prod.mk.inj g_
                have j3_ := g_
                subst j0_
                subst j1_
                subst j2_
                subst j3_
                exact W.zret (v := (nI 0)) hx hb hr rfl (fun t ht hW => ⟨⟨_, (), rfl, rfl, zPost.of hP hD hK ht hW [1, 2, 0] rfl rfl rfl⟩, hS.F ht⟩) hS.2.2 dX11_unit_264
              · have h := zz_t h c20
                refine lv_iconst (v := (nI 1)) hx hb dX11_unit_223 rfl ?_
                refine lv_goto (tgt := 264) hx hb dX11_unit_224 (by decide) ?_
                obtain ⟨j0_, g_⟩ := Prod.mk.inj (Option.some.inj h)
                obtain ⟨j1_, g_⟩ := Prod.mk.inj g_
                obtain ⟨j2_, g_⟩ := Prod.mk.inj g_
                have j3_ := g_
                subst j0_
                subst j1_
                subst j2_
                subst j3_
                exact W.zret (v := (nI 1)) hx hb hr rfl (fun t ht hW => ⟨⟨_, (), rfl, rfl, zPost.of hP hD hK ht hW [1, 2, 0] rfl rfl rfl⟩, hS.F ht⟩) hS.2.2 dX11_unit_264
          · have h := zz_t h c13
            refine lv_iconst (v := (nI 0)) hx hb dX11_unit_195 rfl ?_
            refine lv_goto (tgt := 208) hx hb dX11_unit_196 (by decide) ?_
            refine lv_istore (lv' := [(5, .int (nI 0)), (4, .int r9), (3, .int r6), (2, .int s0_j120), (1, .int r1), (0, .ref a_t)]) hx hb dX11_unit_208 hl (by decide) rfl (fun ls hl => ?_)
            refine lv_iload_n hx hb dX11_unit_210 rfl (lv_at hl 2 rfl) ?_
            refine lv_bipush (v := (nI 61)) hx hb dX11_unit_211 rfl ?_
            refine lv_icmp_ne (tgt := 231) hx hb dX11_unit_213 (by decide) (fun c21 => ?_) (fun c21 => ?_)
            · have h := zz_f h c21
              refine lv_iload_n hx hb dX11_unit_231 rfl (lv_at hl 2 rfl) ?_
              refine lv_bipush (v := (nI 60)) hx hb dX11_unit_232 rfl ?_
              refine lv_icmp_ne (tgt := 252) hx hb dX11_unit_234 (by decide) (fun c22 => ?_) (fun c22 => ?_)
              · have h := zz_f h c22
                refine lv_iload hx hb dX11_unit_252 (lv_at hl 0 rfl) ?_
                refine lv_iload hx hb dX11_unit_254 (lv_at hl 1 rfl) ?_
                refine lv_icmp_le (tgt := 263) hx hb dX11_unit_256 (by decide) (fun c23 => ?_) (fun c23 => ?_)
                · have h := zz_t h c23
                  refine lv_iconst (v := (nI 0)) hx hb dX11_unit_263 rfl ?_
                  obtain ⟨j0_, g_⟩ := Prod.mk.inj (Option.some.inj h)
                  obtain ⟨j1_, g_⟩ := Prod.mk.inj g_
                  obtain ⟨j2_, g_⟩ := Prod.mk.inj g_
                  have j3_ := g_
                  subst j0_
                  subst j1_
                  subst j2_
                  subst j3_
                  exact W.zret (v := (nI 0)) hx hb hr rfl (fun t ht hW => ⟨⟨_, (), rfl, rfl, zPost.of hP hD hK ht hW [1, 0, 2] rfl rfl rfl⟩, hS.F ht⟩) hS.2.2 dX11_unit_264
                · have h := zz_f h c23
                  refine lv_iconst (v := (nI 1)) hx hb dX11_unit_259 rfl ?_
                  refine lv_goto (tgt := 264) hx hb dX11_unit_260 (by decide) ?_
                  obtain ⟨j0_, g_⟩ := Prod.mk.inj (Option.some.inj h)
                  obtain ⟨j1_, g_⟩ := Prod.mk.inj g_
                  obtain ⟨j2_, g_⟩ := Prod.mk.inj g_
                  have j3_ := g_
                  subst j0_
                  subst j1_
                  subst j2_
                  subst j3_
                  exact W.zret (v := (nI 1)) hx hb hr rfl (fun t ht hW => ⟨⟨_, (), rfl, rfl, zPost.of hP hD hK ht hW [1, 0, 2] rfl rfl rfl⟩, hS.F ht⟩) hS.2.2 dX11_unit_264
              · have h := zz_t h c22
                refine lv_iload hx hb dX11_unit_237 (lv_at hl 0 rfl) ?_
                refine lv_iload hx hb dX11_unit_239 (lv_at hl 1 rfl) ?_
                refine lv_icmp_ge (tgt := 248) hx hb dX11_unit_241 (by decide) (fun c24 => ?_) (fun c24 => ?_)
                · have h := zz_t h c24
                  refine lv_iconst (v := (nI 0)) hx hb dX11_unit_248 rfl ?_
                  refine lv_goto (tgt := 264) hx hb dX11_unit_249 (by decide) ?_
                  obtain ⟨j0_, g_⟩ := Prod.mk.inj (Option.some.inj h)
                  obtain ⟨j1_, g_⟩ := Prod.mk.inj g_
                  obtain ⟨j2_, g_⟩ := Prod.mk.inj g_
                  have j3_ := g_
                  subst j0_
                  subst j1_
                  subst j2_
                  subst j3_
                  exact W.zret (v := (nI 0)) hx hb hr rfl (fun t ht hW => ⟨⟨_, (), rfl, rfl, zPost.of hP hD hK ht hW [1, 0, 2] rfl rfl rfl⟩, hS.F ht⟩) hS.2.2 dX11_unit_264
                · have h := zz_f h c24
                  refine lv_iconst (v := (nI 1)) hx hb dX11_unit_244 rfl ?_
                  refine lv_goto (tgt := 264) hx hb dX11_unit_245 (by decide) ?_
                  obtain ⟨j0_, g_⟩ := Prod.mk.inj (Option.some.inj h)
                  obtain ⟨j1_, g_⟩ := Prod.mk.inj g_
                  obtain ⟨j2_, g_⟩ := Prod.mk.inj g_
                  have j3_ := g_
                  subst j0_
                  subst j1_
                  subst j2_
                  subst j3_
                  exact W.zret (v := (nI 1)) hx hb hr rfl (fun t ht hW => ⟨⟨_, (), rfl, rfl, zPost.of hP hD hK ht hW [1, 0, 2] rfl rfl rfl⟩, hS.F ht⟩) hS.2.2 dX11_unit_264
            · have h := zz_t h c21
              refine lv_iload hx hb dX11_unit_216 (lv_at hl 0 rfl) ?_
              refine lv_iload hx hb dX11_unit_218 (lv_at hl 1 rfl) ?_
              refine lv_icmp_ne (tgt := 227) hx hb dX11_unit_220 (by decide) (fun c25 => ?_) (fun c25 => ?_)
              · have h := zz_f h c25
                refine lv_iconst (v := (nI 0)) hx hb dX11_unit_227 rfl ?_
                refine lv_goto (tgt := 264) hx hb dX11_unit_228 (by decide) ?_
                obtain ⟨j0_, g_⟩ := Prod.mk.inj (Option.some.inj h)
                obtain ⟨j1_, g_⟩ := Prod.mk.inj g_
                obtain ⟨j2_, g_⟩ := Prod.mk.inj g_
                have j3_ := g_
                subst j0_
                subst j1_
                subst j2_
                subst j3_
                exact W.zret (v := (nI 0)) hx hb hr rfl (fun t ht hW => ⟨⟨_, (), rfl, rfl, zPost.of hP hD hK ht hW [1, 0, 2] rfl rfl rfl⟩, hS.F ht⟩) hS.2.2 dX11_unit_264
              · have h := zz_t h c25
                refine lv_iconst (v := (nI 1)) hx hb dX11_unit_223 rfl ?_
                refine lv_goto (tgt := 264) hx hb dX11_unit_224 (by decide) ?_
                obtain ⟨j0_, g_⟩ := Prod.mk.inj (Option.some.inj h)
                obtain ⟨j1_, g_⟩ := Prod.mk.inj g_
                obtain ⟨j2_, g_⟩ := Prod.mk.inj g_
                have j3_ := g_
                subst j0_
                subst j1_
                subst j2_
                subst j3_
                exact W.zret (v := (nI 1)) hx hb hr rfl (fun t ht hW => ⟨⟨_, (), rfl, rfl, zPost.of hP hD hK ht hW [1, 0, 2] rfl rfl rfl⟩, hS.F ht⟩) hS.2.2 dX11_unit_264
        refine lv_icmp_eq (tgt := 171) hx hb dX11_unit_150 (by decide) (fun c26 => ?_) (fun c26 => ?_)
        · have h := zz_t h c26
          exact J171  _ _ _ h (hP.sub [0, 1, 2] rfl) (hD.sub [0, 1, 2] rfl rfl) hS (lv_sub hl [0, 1, 2, 3] rfl)
        · have h := zz_f h c26
          refine lv_iload_n hx hb dX11_unit_153 rfl (lv_at hl 0 rfl) ?_
          refine lv_bipush (v := (nI 60)) hx hb dX11_unit_154 rfl ?_
          refine lv_icmp_eq (tgt := 171) hx hb dX11_unit_156 (by decide) (fun c27 => ?_) (fun c27 => ?_)
          · have h := zz_t h c27
            exact J171  _ _ _ h (hP.sub [0, 1, 2] rfl) (hD.sub [0, 1, 2] rfl rfl) hS (lv_sub hl [0, 1, 2, 3] rfl)
          · have h := zz_f h c27
            refine lv_iload_n hx hb dX11_unit_159 rfl (lv_at hl 0 rfl) ?_
            refine lv_bipush (v := (nI 62)) hx hb dX11_unit_160 rfl ?_
            refine lv_icmp_eq (tgt := 171) hx hb dX11_unit_162 (by decide) (fun c28 => ?_) (fun c28 => ?_)
            · have h := zz_t h c28
              exact J171  _ _ _ h (hP.sub [0, 1, 2] rfl) (hD.sub [0, 1, 2] rfl rfl) hS (lv_sub hl [0, 1, 2, 3] rfl)
            · have h := zz_f h c28
              refine lv_aload_n hx hb dX11_unit_165 rfl (lv_at hl 3 rfl) ?_
              obtain ⟨t_fault_r29, e30, h⟩ := zz_b h
              refine zVv (As := []) (rest := []) (C := RX11) (wr := [(a_t_now, .inl (cI, 1562, .inl t_now)), (a_t_text, .inl (cB, 200, .inl t_text))]) [1] [0, 2] 0 ⟨hx, hb, hml, hown, hts⟩ (mX11_wrong l D cB cI cZ a_t a_t_now a_t_kept a_t_text a_t_passing a_t_order a_t_times t_thrown t_isKept t_length t_at_r7 t_fault t_open t_asked t_byGun t_prizeMost t_listed H.size t_fault_r29 e30) (cwV 0 hts gX11_unit_X11_wrong rfl rfl rfl (by decide +kernel) ⟨Nat.le_of_ble_eq_true rfl, Nat.le_of_ble_eq_true rfl⟩) hK hN hZ hP hD hS hA rfl rfl rfl rfl rfl rfl rfl rfl hl.1 rfl (lv_room (Nat.le_of_ble_eq_true rfl)) dX11_unit_166 ⟨Nat.le_of_ble_eq_true rfl, Nat.le_of_ble_eq_true rfl⟩ (fun H locs hP hD hS => ?_)
              have hP : va_P D vwCl [(a_t_now, .inl (cI, 1562, .inl t_now)), (a_t_text, .inl (cB, 200, .inl t_text)), (a_t, .inr (11, [.int t_thrown, .ref a_t_now, .ref a_t_kept, .int t_isKept, .ref a_t_text, .int t_length, .ref a_t_passing, .int t_at_r7, .int t_fault_r29, .int t_open, .int t_asked, .int t_byGun, .int t_prizeMost, .ref a_t_order, .ref a_t_times, .int t_listed]))] H := hP
              have hD : va_D A [(a_t_now, .inl (cI, 1562, .inl t_now)), (a_t_text, .inl (cB, 200, .inl t_text)), (a_t, .inr (11, [.int t_thrown, .ref a_t_now, .ref a_t_kept, .int t_isKept, .ref a_t_text, .int t_length, .ref a_t_passing, .int t_at_r7, .int t_fault_r29, .int t_open, .int t_asked, .int t_byGun, .int t_prizeMost, .ref a_t_order, .ref a_t_times, .int t_listed]))] := hD
              refine lv_iconst (v := (nI 0)) hx hb dX11_unit_169 rfl ?_
              obtain ⟨j0_, g_⟩ := Prod.mk.inj (Option.some.inj h)
              obtain ⟨j1_, g_⟩ := Prod.mk.inj g_
              obtain ⟨j2_, g_⟩ := Prod.mk.inj g_
              have j3_ := g_
              subst j0_
              subst j1_
              subst j2_
              subst j3_
              exact W.zret (v := (nI 0)) hx hb hr rfl (fun t ht hW => ⟨⟨_, (), rfl, rfl, zPost.of hP hD hK ht hW [2, 0, 1] rfl rfl rfl⟩, hS.F ht⟩) hS.2.2 dX11_unit_170
      · have h := zz_t h c5
        refine lv_aload_n hx hb dX11_unit_126 rfl (lv_at hl 2 rfl) ?_
        obtain ⟨t_fault_r31, e32, h⟩ := zz_b h
        refine zVv (As := []) (rest := []) (C := RX11) (wr := [(a_t_now, .inl (cI, 1562, .inl t_now)), (a_t_text, .inl (cB, 200, .inl t_text))]) [1] [0, 2] 0 ⟨hx, hb, hml, hown, hts⟩ (mX11_wrong l D cB cI cZ a_t a_t_now a_t_kept a_t_text a_t_passing a_t_order a_t_times t_thrown t_isKept t_length t_at_r2 t_fault t_open t_asked t_byGun t_prizeMost t_listed H.size t_fault_r31 e32) (cwV 0 hts gX11_unit_X11_wrong rfl rfl rfl (by decide +kernel) ⟨Nat.le_of_ble_eq_true rfl, Nat.le_of_ble_eq_true rfl⟩) hK hN hZ hP hD hS hA rfl rfl rfl rfl rfl rfl rfl rfl hl.1 rfl (lv_room (Nat.le_of_ble_eq_true rfl)) dX11_unit_127 ⟨Nat.le_of_ble_eq_true rfl, Nat.le_of_ble_eq_true rfl⟩ (fun H locs hP hD hS => ?_)
        have hP : va_P D vwCl [(a_t_now, .inl (cI, 1562, .inl t_now)), (a_t_text, .inl (cB, 200, .inl t_text)), (a_t, .inr (11, [.int t_thrown, .ref a_t_now, .ref a_t_kept, .int t_isKept, .ref a_t_text, .int t_length, .ref a_t_passing, .int t_at_r2, .int t_fault_r31, .int t_open, .int t_asked, .int t_byGun, .int t_prizeMost, .ref a_t_order, .ref a_t_times, .int t_listed]))] H := hP
        have hD : va_D A [(a_t_now, .inl (cI, 1562, .inl t_now)), (a_t_text, .inl (cB, 200, .inl t_text)), (a_t, .inr (11, [.int t_thrown, .ref a_t_now, .ref a_t_kept, .int t_isKept, .ref a_t_text, .int t_length, .ref a_t_passing, .int t_at_r2, .int t_fault_r31, .int t_open, .int t_asked, .int t_byGun, .int t_prizeMost, .ref a_t_order, .ref a_t_times, .int t_listed]))] := hD
        refine lv_iconst (v := (nI 0)) hx hb dX11_unit_130 rfl ?_
        obtain ⟨j0_, g_⟩ := Prod.mk.inj (Option.some.inj h)
        obtain ⟨j1_, g_⟩ := Prod.mk.inj g_
        obtain ⟨j2_, g_⟩ := Prod.mk.inj g_
        have j3_ := g_
        subst j0_
        subst j1_
        subst j2_
        subst j3_
        exact W.zret (v := (nI 0)) hx hb hr rfl (fun t ht hW => ⟨⟨_, (), rfl, rfl, zPost.of hP hD hK ht hW [2, 0, 1] rfl rfl rfl⟩, hS.F ht⟩) hS.2.2 dX11_unit_131
    refine lv_icmp_ne (tgt := 79) hx hb dX11_unit_72 (by decide) (fun c33 => ?_) (fun c33 => ?_)
    · have h := zz_f h c33
      refine lv_iload_n hx hb dX11_unit_79 rfl (lv_at hl 0 rfl) ?_
      refine lv_bipush (v := (nI 121)) hx hb dX11_unit_80 rfl ?_
      refine lv_icmp_ne (tgt := 89) hx hb dX11_unit_82 (by decide) (fun c34 => ?_) (fun c34 => ?_)
      · have h := zz_f h c34
        refine lv_iload_n hx hb dX11_unit_89 rfl (lv_at hl 0 rfl) ?_
        refine lv_bipush (v := (nI 116)) hx hb dX11_unit_90 rfl ?_
        refine lv_icmp_ne (tgt := 99) hx hb dX11_unit_92 (by decide) (fun c35 => ?_) (fun c35 => ?_)
        · have h := zz_f h c35
          refine lv_iload_n hx hb dX11_unit_99 rfl (lv_at hl 0 rfl) ?_
          refine lv_bipush (v := (nI 112)) hx hb dX11_unit_100 rfl ?_
          refine lv_icmp_ne (tgt := 109) hx hb dX11_unit_102 (by decide) (fun c36 => ?_) (fun c36 => ?_)
          · have h := zz_f h c36
            refine lv_iload_n hx hb dX11_unit_109 rfl (lv_at hl 0 rfl) ?_
            refine lv_bipush (v := (nI 107)) hx hb dX11_unit_110 rfl ?_
            refine lv_icmp_ne (tgt := 119) hx hb dX11_unit_112 (by decide) (fun c37 => ?_) (fun c37 => ?_)
            · have h := zz_f h c37
              refine lv_iconst (v := (-1 : Int32)) hx hb dX11_unit_119 rfl ?_
              exact J120 (-1 : Int32) _ _ _ h (hP.sub [0, 1, 2] rfl) (hD.sub [0, 1, 2] rfl rfl) hS (lv_sub hl [0, 1] rfl)
            · have h := zz_t h c37
              refine lv_iconst (v := (nI 0)) hx hb dX11_unit_115 rfl ?_
              refine lv_goto (tgt := 120) hx hb dX11_unit_116 (by decide) ?_
              exact J120 (nI 0) _ _ _ h (hP.sub [0, 1, 2] rfl) (hD.sub [0, 1, 2] rfl rfl) hS (lv_sub hl [0, 1] rfl)
          · have h := zz_t h c36
            refine lv_iconst (v := (nI 5)) hx hb dX11_unit_105 rfl ?_
            refine lv_goto (tgt := 120) hx hb dX11_unit_106 (by decide) ?_
            exact J120 (nI 5) _ _ _ h (hP.sub [0, 1, 2] rfl) (hD.sub [0, 1, 2] rfl rfl) hS (lv_sub hl [0, 1] rfl)
        · have h := zz_t h c35
          refine lv_iconst (v := (nI 4)) hx hb dX11_unit_95 rfl ?_
          refine lv_goto (tgt := 120) hx hb dX11_unit_96 (by decide) ?_
          exact J120 (nI 4) _ _ _ h (hP.sub [0, 1, 2] rfl) (hD.sub [0, 1, 2] rfl rfl) hS (lv_sub hl [0, 1] rfl)
      · have h := zz_t h c34
        refine lv_iconst (v := (nI 2)) hx hb dX11_unit_85 rfl ?_
        refine lv_goto (tgt := 120) hx hb dX11_unit_86 (by decide) ?_
        exact J120 (nI 2) _ _ _ h (hP.sub [0, 1, 2] rfl) (hD.sub [0, 1, 2] rfl rfl) hS (lv_sub hl [0, 1] rfl)
    · have h := zz_t h c33
      refine lv_iconst (v := (nI 3)) hx hb dX11_unit_75 rfl ?_
      refine lv_goto (tgt := 120) hx hb dX11_unit_76 (by decide) ?_
      exact J120 (nI 3) _ _ _ h (hP.sub [0, 1, 2] rfl) (hD.sub [0, 1, 2] rfl rfl) hS (lv_sub hl [0, 1] rfl)
  · have h := zz_t h c4
    refine lv_aload_n hx hb dX11_unit_11 rfl (lv_at hl 1 rfl) ?_
    refine va_get (D := D) (ci := 11) (C := RX11) (T := TX11) (N := 16) hx hb hts qX11_unit_X11 hown hK hP 1 rfl rfl 9 (by decide) (hts _ kX11_unit_3) (fun _ h9 => h9) rfl dX11_unit_12 ?_
    refine lv_bipush (v := (nI 8)) hx hb dX11_unit_15 rfl ?_
    refine lv_icmp_ne (tgt := 26) hx hb dX11_unit_17 (by decide) (fun c38 => ?_) (fun c38 => ?_)
    · have h := zz_f h c38
      refine lv_aload_n hx hb dX11_unit_26 rfl (lv_at hl 1 rfl) ?_
      refine lv_dup hx hb dX11_unit_27 rfl ?_
      refine va_get (D := D) (ci := 11) (C := RX11) (T := TX11) (N := 16) hx hb hts qX11_unit_X11 hown hK hP 1 rfl rfl 9 (by decide) (hts _ kX11_unit_3) (fun _ h9 => h9) rfl dX11_unit_28 ?_
      refine lv_iconst (v := (nI 1)) hx hb dX11_unit_31 rfl ?_
      refine lv_iadd hx hb dX11_unit_32 ?_
      refine va_put (D := D) (ci := 11) (ty := .int) (C := RX11) (T := TX11) (N := 16) hx hb hts qX11_unit_X11 tyX11 tyX11_ok nmX11 hown hK hP hD hS 1 rfl rfl 9 (by decide) (hts _ kX11_unit_3) (fun _ h9 => h9) rfl (by decide +kernel) rfl (by first | rfl | exact zz_fit) (Nat.le_of_ble_eq_true rfl) dX11_unit_33 (fun H locs hP hD hS => ?_)
      have hP : va_P D vwCl [(a_t_now, .inl (cI, 1562, .inl t_now)), (a_t, .inr (11, [.int t_thrown, .ref a_t_now, .ref a_t_kept, .int t_isKept, .ref a_t_text, .int t_length, .ref a_t_passing, .int t_at_r2, .int t_fault, .int (t_open + (nI 1)), .int t_asked, .int t_byGun, .int t_prizeMost, .ref a_t_order, .ref a_t_times, .int t_listed])), (a_t_text, .inl (cB, 200, .inl t_text))] H := hP
      have hD : va_D A [(a_t_now, .inl (cI, 1562, .inl t_now)), (a_t, .inr (11, [.int t_thrown, .ref a_t_now, .ref a_t_kept, .int t_isKept, .ref a_t_text, .int t_length, .ref a_t_passing, .int t_at_r2, .int t_fault, .int (t_open + (nI 1)), .int t_asked, .int t_byGun, .int t_prizeMost, .ref a_t_order, .ref a_t_times, .int t_listed])), (a_t_text, .inl (cB, 200, .inl t_text))] := hD
      refine lv_aload_n hx hb dX11_unit_36 rfl (lv_at hl 1 rfl) ?_
      refine lv_dup hx hb dX11_unit_37 rfl ?_
      refine va_get (D := D) (ci := 11) (C := RX11) (T := TX11) (N := 16) hx hb hts qX11_unit_X11 hown hK hP 1 rfl rfl 7 (by decide) (hts _ kX11_unit_0) (fun _ h9 => h9) rfl dX11_unit_38 ?_
      refine lv_iconst (v := (nI 1)) hx hb dX11_unit_41 rfl ?_
      refine lv_iadd hx hb dX11_unit_42 ?_
      refine va_put (D := D) (ci := 11) (ty := .int) (C := RX11) (T := TX11) (N := 16) hx hb hts qX11_unit_X11 tyX11 tyX11_ok nmX11 hown hK hP hD hS 1 rfl rfl 7 (by decide) (hts _ kX11_unit_0) (fun _ h9 => h9) rfl (by decide +kernel) rfl (by first | rfl | exact zz_fit) (Nat.le_of_ble_eq_true rfl) dX11_unit_43 (fun H locs hP hD hS => ?_)
      have hP : va_P D vwCl [(a_t_now, .inl (cI, 1562, .inl t_now)), (a_t, .inr (11, [.int t_thrown, .ref a_t_now, .ref a_t_kept, .int t_isKept, .ref a_t_text, .int t_length, .ref a_t_passing, .int (t_at_r2 + (nI 1)), .int t_fault, .int (t_open + (nI 1)), .int t_asked, .int t_byGun, .int t_prizeMost, .ref a_t_order, .ref a_t_times, .int t_listed])), (a_t_text, .inl (cB, 200, .inl t_text))] H := hP
      have hD : va_D A [(a_t_now, .inl (cI, 1562, .inl t_now)), (a_t, .inr (11, [.int t_thrown, .ref a_t_now, .ref a_t_kept, .int t_isKept, .ref a_t_text, .int t_length, .ref a_t_passing, .int (t_at_r2 + (nI 1)), .int t_fault, .int (t_open + (nI 1)), .int t_asked, .int t_byGun, .int t_prizeMost, .ref a_t_order, .ref a_t_times, .int t_listed])), (a_t_text, .inl (cB, 200, .inl t_text))] := hD
      refine lv_aload_n hx hb dX11_unit_46 rfl (lv_at hl 1 rfl) ?_
      obtain ⟨⟨b39, t_at_r40, t_fault_r41, t_open_r42⟩, e43, h⟩ := zz_b h
      dsimp only at h
      refine zVi (As := []) (rest := []) (C := RX11) (wr := []) [1, 0, 2] [] 0 ⟨hx, hb, hml, hown, hts⟩ (mX11_tests_0 l D cB cI cZ a_t a_t_now a_t_kept a_t_text a_t_passing a_t_order a_t_times t_thrown t_isKept t_length (t_at_r2 + (nI 1)) t_fault (t_open + (nI 1)) t_asked t_byGun t_prizeMost t_listed t_now t_text H.size N b39 t_at_r40 t_fault_r41 t_open_r42 (hT ▸ e43)) (cwV 0 hts gX11_unit_X11_tests rfl rfl rfl (by decide +kernel) ⟨Nat.le_of_ble_eq_true rfl, Nat.le_of_ble_eq_true rfl⟩) hK hN hZ hP hD hS hA rfl rfl rfl rfl rfl rfl rfl rfl hl.1 rfl (lv_room (Nat.le_of_ble_eq_true rfl)) dX11_unit_47 ⟨Nat.le_of_ble_eq_true rfl, Nat.le_of_ble_eq_true rfl⟩ (fun H locs hP hD hS => ?_)
      have hP : va_P D vwCl [(a_t, .inr (11, [.int t_thrown, .ref a_t_now, .ref a_t_kept, .int t_isKept, .ref a_t_text, .int t_length, .ref a_t_passing, .int t_at_r40, .int t_fault_r41, .int t_open_r42, .int t_asked, .int t_byGun, .int t_prizeMost, .ref a_t_order, .ref a_t_times, .int t_listed])), (a_t_now, .inl (cI, 1562, .inl t_now)), (a_t_text, .inl (cB, 200, .inl t_text))] H := hP
      have hD : va_D A [(a_t, .inr (11, [.int t_thrown, .ref a_t_now, .ref a_t_kept, .int t_isKept, .ref a_t_text, .int t_length, .ref a_t_passing, .int t_at_r40, .int t_fault_r41, .int t_open_r42, .int t_asked, .int t_byGun, .int t_prizeMost, .ref a_t_order, .ref a_t_times, .int t_listed])), (a_t_now, .inl (cI, 1562, .inl t_now)), (a_t_text, .inl (cB, 200, .inl t_text))] := hD
      refine lv_istore_n (lv' := [(2, .int (zb b39)), (1, .int r1), (0, .ref a_t)]) hx hb dX11_unit_50 rfl hl (by decide) rfl (fun ls hl => ?_)
      refine lv_aload_n hx hb dX11_unit_51 rfl (lv_at hl 2 rfl) ?_
      refine lv_bipush (v := (nI 41)) hx hb dX11_unit_52 rfl ?_
      obtain ⟨⟨t_at_r44, t_fault_r45⟩, e46, h⟩ := zz_b h
      dsimp only at h
      refine zVv (As := [.int (nI 41)]) (rest := []) (C := RX11) (wr := [(a_t_now, .inl (cI, 1562, .inl t_now))]) [0, 2] [1] 0 ⟨hx, hb, hml, hown, hts⟩ (mX11_sign l D cB cI cZ a_t a_t_now a_t_kept a_t_text a_t_passing a_t_order a_t_times t_thrown t_isKept t_length t_at_r40 t_fault_r41 t_open_r42 t_asked t_byGun t_prizeMost t_listed t_text H.size (nI 41) N t_at_r44 t_fault_r45 e46) (cwV 1 hts gX11_unit_X11_sign rfl rfl rfl (by decide +kernel) ⟨Nat.le_of_ble_eq_true rfl, Nat.le_of_ble_eq_true rfl⟩) hK hN hZ hP hD hS hA rfl rfl rfl rfl rfl rfl rfl rfl hl.1 rfl (lv_room (Nat.le_of_ble_eq_true rfl)) dX11_unit_54 ⟨Nat.le_of_ble_eq_true rfl, Nat.le_of_ble_eq_true rfl⟩ (fun H locs hP hD hS => ?_)
      have hP : va_P D vwCl [(a_t_now, .inl (cI, 1562, .inl t_now)), (a_t, .inr (11, [.int t_thrown, .ref a_t_now, .ref a_t_kept, .int t_isKept, .ref a_t_text, .int t_length, .ref a_t_passing, .int t_at_r44, .int t_fault_r45, .int t_open_r42, .int t_asked, .int t_byGun, .int t_prizeMost, .ref a_t_order, .ref a_t_times, .int t_listed])), (a_t_text, .inl (cB, 200, .inl t_text))] H := hP
      have hD : va_D A [(a_t_now, .inl (cI, 1562, .inl t_now)), (a_t, .inr (11, [.int t_thrown, .ref a_t_now, .ref a_t_kept, .int t_isKept, .ref a_t_text, .int t_length, .ref a_t_passing, .int t_at_r44, .int t_fault_r45, .int t_open_r42, .int t_asked, .int t_byGun, .int t_prizeMost, .ref a_t_order, .ref a_t_times, .int t_listed])), (a_t_text, .inl (cB, 200, .inl t_text))] := hD
      refine lv_aload_n hx hb dX11_unit_57 rfl (lv_at hl 2 rfl) ?_
      refine lv_dup hx hb dX11_unit_58 rfl ?_
      refine va_get (D := D) (ci := 11) (C := RX11) (T := TX11) (N := 16) hx hb hts qX11_unit_X11 hown hK hP 1 rfl rfl 9 (by decide) (hts _ kX11_unit_3) (fun _ h9 => h9) rfl dX11_unit_59 ?_
      refine lv_iconst (v := (nI 1)) hx hb dX11_unit_62 rfl ?_
      refine lv_isub hx hb dX11_unit_63 ?_
      refine va_put (D := D) (ci := 11) (ty := .int) (C := RX11) (T := TX11) (N := 16) hx hb hts qX11_unit_X11 tyX11 tyX11_ok nmX11 hown hK hP hD hS 1 rfl rfl 9 (by decide) (hts _ kX11_unit_3) (fun _ h9 => h9) rfl (by decide +kernel) rfl (by first | rfl | exact zz_fit) (Nat.le_of_ble_eq_true rfl) dX11_unit_64 (fun H locs hP hD hS => ?_)
      have hP : va_P D vwCl [(a_t_now, .inl (cI, 1562, .inl t_now)), (a_t, .inr (11, [.int t_thrown, .ref a_t_now, .ref a_t_kept, .int t_isKept, .ref a_t_text, .int t_length, .ref a_t_passing, .int t_at_r44, .int t_fault_r45, .int (t_open_r42 - (nI 1)), .int t_asked, .int t_byGun, .int t_prizeMost, .ref a_t_order, .ref a_t_times, .int t_listed])), (a_t_text, .inl (cB, 200, .inl t_text))] H := hP
      have hD : va_D A [(a_t_now, .inl (cI, 1562, .inl t_now)), (a_t, .inr (11, [.int t_thrown, .ref a_t_now, .ref a_t_kept, .int t_isKept, .ref a_t_text, .int t_length, .ref a_t_passing, .int t_at_r44, .int t_fault_r45, .int (t_open_r42 - (nI 1)), .int t_asked, .int t_byGun, .int t_prizeMost, .ref a_t_order, .ref a_t_times, .int t_listed])), (a_t_text, .inl (cB, 200, .inl t_text))] := hD
      refine lv_iload_n hx hb dX11_unit_67 rfl (lv_at hl 0 rfl) ?_
      obtain ⟨j0_, g_⟩ := Prod.mk.inj (Option.some.inj h)
      obtain ⟨j1_, g_⟩ := Prod.mk.inj g_
      obtain ⟨j2_, g_⟩ := Prod.mk.inj g_
      have j3_ := g_
      subst j0_
      subst j1_
      subst j2_
      subst j3_
      exact W.zret (v := (zb b39)) hx hb hr zz_n (fun t ht hW => ⟨⟨_, (), rfl, rfl, zPost.of hP hD hK ht hW [1, 0, 2] rfl rfl rfl⟩, hS.F ht⟩) hS.2.2 dX11_unit_68
    · have h := zz_t h c38
      refine lv_aload_n hx hb dX11_unit_20 rfl (lv_at hl 1 rfl) ?_
      obtain ⟨t_fault_r47, e48, h⟩ := zz_b h
      refine zVv (As := []) (rest := []) (C := RX11) (wr := [(a_t_now, .inl (cI, 1562, .inl t_now)), (a_t_text, .inl (cB, 200, .inl t_text))]) [1] [0, 2] 0 ⟨hx, hb, hml, hown, hts⟩ (mX11_wrong l D cB cI cZ a_t a_t_now a_t_kept a_t_text a_t_passing a_t_order a_t_times t_thrown t_isKept t_length t_at_r2 t_fault t_open t_asked t_byGun t_prizeMost t_listed H.size t_fault_r47 e48) (cwV 0 hts gX11_unit_X11_wrong rfl rfl rfl (by decide +kernel) ⟨Nat.le_of_ble_eq_true rfl, Nat.le_of_ble_eq_true rfl⟩) hK hN hZ hP hD hS hA rfl rfl rfl rfl rfl rfl rfl rfl hl.1 rfl (lv_room (Nat.le_of_ble_eq_true rfl)) dX11_unit_21 ⟨Nat.le_of_ble_eq_true rfl, Nat.le_of_ble_eq_true rfl⟩ (fun H locs hP hD hS => ?_)
      have hP : va_P D vwCl [(a_t_now, .inl (cI, 1562, .inl t_now)), (a_t_text, .inl (cB, 200, .inl t_text)), (a_t, .inr (11, [.int t_thrown, .ref a_t_now, .ref a_t_kept, .int t_isKept, .ref a_t_text, .int t_length, .ref a_t_passing, .int t_at_r2, .int t_fault_r47, .int t_open, .int t_asked, .int t_byGun, .int t_prizeMost, .ref a_t_order, .ref a_t_times, .int t_listed]))] H := hP
      have hD : va_D A [(a_t_now, .inl (cI, 1562, .inl t_now)), (a_t_text, .inl (cB, 200, .inl t_text)), (a_t, .inr (11, [.int t_thrown, .ref a_t_now, .ref a_t_kept, .int t_isKept, .ref a_t_text, .int t_length, .ref a_t_passing, .int t_at_r2, .int t_fault_r47, .int t_open, .int t_asked, .int t_byGun, .int t_prizeMost, .ref a_t_order, .ref a_t_times, .int t_listed]))] := hD
      refine lv_iconst (v := (nI 0)) hx hb dX11_unit_24 rfl ?_
      obtain ⟨j0_, g_⟩ := Prod.mk.inj (Option.some.inj h)
      obtain ⟨j1_, g_⟩ := Prod.mk.inj g_
      obtain ⟨j2_, g_⟩ := Prod.mk.inj g_
      have j3_ := g_
      subst j0_
      subst j1_
      subst j2_
      subst j3_
      exact W.zret (v := (nI 0)) hx hb hr rfl (fun t ht hW => ⟨⟨_, (), rfl, rfl, zPost.of hP hD hK ht hW [2, 0, 1] rfl rfl rfl⟩, hS.F ht⟩) hS.2.2 dX11_unit_25
set_option maxHeartbeats 4000000 in
set_option maxRecDepth 100000 in
theorem mX11_part_1 (l : Launch) (D : va_G) (cB cI cZ : ClassId) (a_t : Nat) (a_t_now : Nat) (a_t_kept : Nat) (a_t_text : Nat) (a_t_passing : Nat) (a_t_order : Nat) (a_t_times : Nat) (t_thrown : Int32) (t_isKept : Int32) (t_length : Int32) (t_at : Int32) (t_fault : Int32) (t_open : Int32) (t_asked : Int32) (t_byGun : Int32) (t_prizeMost : Int32) (t_listed : Int32) (t_now : Nat → Int32) (t_text : Nat → Int32) (sz : Nat) (N : Nat) (T : Int32 → Int32 → Int32 → Int32 → Int32 → (Nat → Int32) → (Nat → Int32) → Option (Bool × Int32 × Int32 × Int32)) (hT : T = fX11_testsD N 1) (b0 : Bool) (t_at' : Int32) (t_fault' : Int32) (t_open' : Int32) (h : fX11_part T N t_asked t_at t_fault t_length t_open t_now t_text = some (b0, t_at', t_fault', t_open')) : Met l yX11_part wsX11_part ({ frames := 6, cells := 0, slots := 0, locals := 136 } : Room) (va_Pc [.ref a_t] (zPre D (zT cB cI cZ) [(a_t, .inr (11, [.int t_thrown, .ref a_t_now, .ref a_t_kept, .int t_isKept, .ref a_t_text, .int t_length, .ref a_t_passing, .int t_at, .int t_fault, .int t_open, .int t_asked, .int t_byGun, .int t_prizeMost, .ref a_t_order, .ref a_t_times, .int t_listed])), (a_t_now, .inl (cI, 1562, .inl t_now)), (a_t_text, .inl (cB, 200, .inl t_text))] sz)) (zQi (zb b0) D (zT cB cI cZ) [(a_t, .inr (11, [.int t_thrown, .ref a_t_now, .ref a_t_kept, .int t_isKept, .ref a_t_text, .int t_length, .ref a_t_passing, .int t_at', .int t_fault', .int t_open', .int t_asked, .int t_byGun, .int t_prizeMost, .ref a_t_order, .ref a_t_times, .int t_listed])), (a_t_now, .inl (cI, 1562, .inl t_now)), (a_t_text, .inl (cB, 200, .inl t_text))] (va_A [(a_t, .inr (11, [.int t_thrown, .ref a_t_now, .ref a_t_kept, .int t_isKept, .ref a_t_text, .int t_length, .ref a_t_passing, .int t_at, .int t_fault, .int t_open, .int t_asked, .int t_byGun, .int t_prizeMost, .ref a_t_order, .ref a_t_times, .int t_listed])), (a_t_now, .inl (cI, 1562, .inl t_now)), (a_t_text, .inl (cB, 200, .inl t_text))] sz)) 0 0 (va_A [(a_t, .inr (11, [.int t_thrown, .ref a_t_now, .ref a_t_kept, .int t_isKept, .ref a_t_text, .int t_length, .ref a_t_passing, .int t_at, .int t_fault, .int t_open, .int t_asked, .int t_byGun, .int t_prizeMost, .ref a_t_order, .ref a_t_times, .int t_listed])), (a_t_now, .inl (cI, 1562, .inl t_now)), (a_t_text, .inl (cB, 200, .inl t_text))] sz) := by
  refine Met.ofW (cc := cX11_part) (maxL := 3) (ret := (some .boolean)) (by decide) rfl ?_
  intro p e s m args below meth c s₁ B hml hv
  obtain ⟨rfl, hsz, hP, hK, hN, hZ, hD0⟩ := hv
  have hx := B.exec
  have hb := B.bytes
  have hr := B.returns
  have hts := atoms_spec (ws := wsX11_part) B.pre
  have hown : s.vm.findClass RX11 = some m.cls := findClass_of_methodNamed B.named
  have hlocks := B.notSynchronized
  subst hsz
  have hD := hD0.self (sz := s.heap.size)
  generalize hAe : va_A [(a_t, .inr (11, [.int t_thrown, .ref a_t_now, .ref a_t_kept, .int t_isKept, .ref a_t_text, .int t_length, .ref a_t_passing, .int t_at, .int t_fault, .int t_open, .int t_asked, .int t_byGun, .int t_prizeMost, .ref a_t_order, .ref a_t_times, .int t_listed])), (a_t_now, .inl (cI, 1562, .inl t_now)), (a_t_text, .inl (cB, 200, .inl t_text))] s.heap.size = A at hD hZ ⊢
  have hA : ∀ q : Nat, s.heap.size ≤ q → A q := fun q h => by rw [← hAe]; exact Or.inr h
  have hS : va_S A s.heap s.heap [] := va_S.rf
  have hl := lv_entry ([.ref a_t]) (n := 3) (Nat.le_of_ble_eq_true rfl)
  rw [lg_entry_eq]
  generalize (lg_sl ([.ref a_t]) ++ List.replicate (3 - (lg_sl ([.ref a_t])).length) Slot.unset).toArray = ls at hl ⊢
  have hl : lv_has ls 3 [(0, .ref a_t)] := hl
  unfold fX11_part at h
  refine lv_aload_n hx hb dX11_part_0 rfl (lv_at hl 0 rfl) ?_
  obtain ⟨⟨b1, t_at_r2, t_fault_r3, t_open_r4⟩, e5, h⟩ := zz_b h
  dsimp only at h
  refine zVi (As := []) (rest := []) (C := RX11) (wr := []) [0, 1, 2] [] 0 ⟨hx, hb, hml, hown, hts⟩ (mX11_unit_1 l D cB cI cZ a_t a_t_now a_t_kept a_t_text a_t_passing a_t_order a_t_times t_thrown t_isKept t_length t_at t_fault t_open t_asked t_byGun t_prizeMost t_listed t_now t_text s.heap.size N T hT b1 t_at_r2 t_fault_r3 t_open_r4 e5) (cwV 0 hts gX11_part_X11_unit rfl rfl rfl (by decide +kernel) ⟨Nat.le_of_ble_eq_true rfl, Nat.le_of_ble_eq_true rfl⟩) hK hN hZ hP hD hS hA rfl rfl rfl rfl rfl rfl rfl rfl hl.1 rfl (lv_room (Nat.le_of_ble_eq_true rfl)) dX11_part_1 ⟨Nat.le_of_ble_eq_true rfl, Nat.le_of_ble_eq_true rfl⟩ (fun H locs hP hD hS => ?_)
  have hP : va_P D vwCl [(a_t, .inr (11, [.int t_thrown, .ref a_t_now, .ref a_t_kept, .int t_isKept, .ref a_t_text, .int t_length, .ref a_t_passing, .int t_at_r2, .int t_fault_r3, .int t_open_r4, .int t_asked, .int t_byGun, .int t_prizeMost, .ref a_t_order, .ref a_t_times, .int t_listed])), (a_t_now, .inl (cI, 1562, .inl t_now)), (a_t_text, .inl (cB, 200, .inl t_text))] H := hP
  have hD : va_D A [(a_t, .inr (11, [.int t_thrown, .ref a_t_now, .ref a_t_kept, .int t_isKept, .ref a_t_text, .int t_length, .ref a_t_passing, .int t_at_r2, .int t_fault_r3, .int t_open_r4, .int t_asked, .int t_byGun, .int t_prizeMost, .ref a_t_order, .ref a_t_times, .int t_listed])), (a_t_now, .inl (cI, 1562, .inl t_now)), (a_t_text, .inl (cB, 200, .inl t_text))] := hD
  refine lv_istore_n (lv' := [(1, .int (zb b1)), (0, .ref a_t)]) hx hb dX11_part_4 rfl hl (by decide) rfl (fun ls hl => ?_)
  have X5_53 : ∀ (v1_5 : Bool) (t_at_l5 : Int32) (t_fault_l5 : Int32) (t_open_l5 : Int32) (H : Heap) (locs : List Loc) (ls : Array Slot), some (v1_5, t_at_l5, t_fault_l5, t_open_l5) = some (b0, t_at', t_fault', t_open') → va_P D vwCl [(a_t, .inr (11, [.int t_thrown, .ref a_t_now, .ref a_t_kept, .int t_isKept, .ref a_t_text, .int t_length, .ref a_t_passing, .int t_at_l5, .int t_fault_l5, .int t_open_l5, .int t_asked, .int t_byGun, .int t_prizeMost, .ref a_t_order, .ref a_t_times, .int t_listed])), (a_t_now, .inl (cI, 1562, .inl t_now)), (a_t_text, .inl (cB, 200, .inl t_text))] H → va_D A [(a_t, .inr (11, [.int t_thrown, .ref a_t_now, .ref a_t_kept, .int t_isKept, .ref a_t_text, .int t_length, .ref a_t_passing, .int t_at_l5, .int t_fault_l5, .int t_open_l5, .int t_asked, .int t_byGun, .int t_prizeMost, .ref a_t_order, .ref a_t_times, .int t_listed])), (a_t_now, .inl (cI, 1562, .inl t_now)), (a_t_text, .inl (cB, 200, .inl t_text))] → va_S A s.heap H locs → lv_has ls 3 [(1, .int (zb v1_5)), (0, .ref a_t)] → W p l e (headSpec wsX11_part ({ frames := 6, cells := 0, slots := 0, locals := 136 } : Room)).room s m #[Value.ref a_t] below meth c H locs 0 0 (MQ below (zQi (zb b0) D (zT cB cI cZ) [(a_t, .inr (11, [.int t_thrown, .ref a_t_now, .ref a_t_kept, .int t_isKept, .ref a_t_text, .int t_length, .ref a_t_passing, .int t_at', .int t_fault', .int t_open', .int t_asked, .int t_byGun, .int t_prizeMost, .ref a_t_order, .ref a_t_times, .int t_listed])), (a_t_now, .inl (cI, 1562, .inl t_now)), (a_t_text, .inl (cB, 200, .inl t_text))] A) #[Value.ref a_t] s 0 0 A) (F0 m 53 ls []) := by
    intro v1_5 t_at_l5 t_fault_l5 t_open_l5 H locs ls h hP hD hS hl
    refine lv_iload_n hx hb dX11_part_53 rfl (lv_at hl 0 rfl) ?_
    obtain ⟨j0_, g_⟩ := Prod.mk.inj (Option.some.inj h)
    obtain ⟨j1_, g_⟩ := Prod.mk.inj g_
    obtain ⟨j2_, g_⟩ := Prod.mk.inj g_
    have j3_ := g_
    subst j0_
    subst j1_
    subst j2_
    subst j3_
    exact W.zret (v := (zb v1_5)) hx hb hr zz_n (fun t ht hW => ⟨⟨_, (), rfl, rfl, zPost.of hP hD hK ht hW [0, 1, 2] rfl rfl rfl⟩, hS.F ht⟩) hS.2.2 dX11_part_54
  have L5 : ∀ (n : Nat) (v1_5 : Bool) (t_at_l5 : Int32) (t_fault_l5 : Int32) (t_open_l5 : Int32) (H : Heap) (locs : List Loc) (ls : Array Slot), fX11_part_L5 N T t_length t_asked t_now t_text (fun (v1_5 : Bool) (t_at_l5 : Int32) (t_fault_l5 : Int32) (t_open_l5 : Int32) => some (v1_5, t_at_l5, t_fault_l5, t_open_l5)) n v1_5 t_at_l5 t_fault_l5 t_open_l5 = some (b0, t_at', t_fault', t_open') → va_P D vwCl [(a_t, .inr (11, [.int t_thrown, .ref a_t_now, .ref a_t_kept, .int t_isKept, .ref a_t_text, .int t_length, .ref a_t_passing, .int t_at_l5, .int t_fault_l5, .int t_open_l5, .int t_asked, .int t_byGun, .int t_prizeMost, .ref a_t_order, .ref a_t_times, .int t_listed])), (a_t_now, .inl (cI, 1562, .inl t_now)), (a_t_text, .inl (cB, 200, .inl t_text))] H → va_D A [(a_t, .inr (11, [.int t_thrown, .ref a_t_now, .ref a_t_kept, .int t_isKept, .ref a_t_text, .int t_length, .ref a_t_passing, .int t_at_l5, .int t_fault_l5, .int t_open_l5, .int t_asked, .int t_byGun, .int t_prizeMost, .ref a_t_order, .ref a_t_times, .int t_listed])), (a_t_now, .inl (cI, 1562, .inl t_now)), (a_t_text, .inl (cB, 200, .inl t_text))] → va_S A s.heap H locs → lv_has ls 3 [(1, .int (zb v1_5)), (0, .ref a_t)] → W p l e (headSpec wsX11_part ({ frames := 6, cells := 0, slots := 0, locals := 136 } : Room)).room s m #[Value.ref a_t] below meth c H locs 0 0 (MQ below (zQi (zb b0) D (zT cB cI cZ) [(a_t, .inr (11, [.int t_thrown, .ref a_t_now, .ref a_t_kept, .int t_isKept, .ref a_t_text, .int t_length, .ref a_t_passing, .int t_at', .int t_fault', .int t_open', .int t_asked, .int t_byGun, .int t_prizeMost, .ref a_t_order, .ref a_t_times, .int t_listed])), (a_t_now, .inl (cI, 1562, .inl t_now)), (a_t_text, .inl (cB, 200, .inl t_text))] A) #[Value.ref a_t] s 0 0 A) (F0 m 5 ls []) := by
    intro n
    induction n with
    | zero => intro _ _ _ _ H locs ls h hP hD hS hl; cases h
    | succ n5 ih5 =>
      intro v1_5 t_at_l5 t_fault_l5 t_open_l5 H locs ls h hP hD hS hl
      rw [fX11_part_L5.eq_2] at h
      refine lv_aload_n hx hb dX11_part_5 rfl (lv_at hl 1 rfl) ?_
      obtain ⟨b6, e7, h⟩ := zz_b h
      refine zVi (As := []) (rest := []) (C := RX11) (wr := [(a_t_now, .inl (cI, 1562, .inl t_now)), (a_t_text, .inl (cB, 200, .inl t_text))]) [0] [1, 2] 0 ⟨hx, hb, hml, hown, hts⟩ (mX11_isFine l D cB cI cZ a_t a_t_now a_t_kept a_t_text a_t_passing a_t_order a_t_times t_thrown t_isKept t_length t_at_l5 t_fault_l5 t_open_l5 t_asked t_byGun t_prizeMost t_listed H.size b6 e7) (cwV 0 hts gX11_part_X11_isFine rfl rfl rfl (by decide +kernel) ⟨Nat.le_of_ble_eq_true rfl, Nat.le_of_ble_eq_true rfl⟩) hK hN hZ hP hD hS hA rfl rfl rfl rfl rfl rfl rfl rfl hl.1 rfl (lv_room (Nat.le_of_ble_eq_true rfl)) dX11_part_6 ⟨Nat.le_of_ble_eq_true rfl, Nat.le_of_ble_eq_true rfl⟩ (fun H locs hP hD hS => ?_)
      have hP : va_P D vwCl [(a_t_now, .inl (cI, 1562, .inl t_now)), (a_t_text, .inl (cB, 200, .inl t_text)), (a_t, .inr (11, [.int t_thrown, .ref a_t_now, .ref a_t_kept, .int t_isKept, .ref a_t_text, .int t_length, .ref a_t_passing, .int t_at_l5, .int t_fault_l5, .int t_open_l5, .int t_asked, .int t_byGun, .int t_prizeMost, .ref a_t_order, .ref a_t_times, .int t_listed]))] H := hP
      have hD : va_D A [(a_t_now, .inl (cI, 1562, .inl t_now)), (a_t_text, .inl (cB, 200, .inl t_text)), (a_t, .inr (11, [.int t_thrown, .ref a_t_now, .ref a_t_kept, .int t_isKept, .ref a_t_text, .int t_length, .ref a_t_passing, .int t_at_l5, .int t_fault_l5, .int t_open_l5, .int t_asked, .int t_byGun, .int t_prizeMost, .ref a_t_order, .ref a_t_times, .int t_listed]))] := hD
      refine lv_if_eq (tgt := 53) hx hb dX11_part_9 (by decide) (fun c8 => ?_) (fun c8 => ?_)
      · have h := zz_t h c8
        exact X5_53 v1_5 t_at_l5 t_fault_l5 t_open_l5 _ _ _ h (hP.sub [2, 0, 1] rfl) (hD.sub [2, 0, 1] rfl rfl) hS (lv_sub hl [0, 1] rfl)
      · have h := zz_f h c8
        refine lv_aload_n hx hb dX11_part_12 rfl (lv_at hl 1 rfl) ?_
        obtain ⟨⟨r9, t_at_r10⟩, e11, h⟩ := zz_b h
        dsimp only at h
        refine zVi (As := []) (rest := []) (C := RX11) (wr := [(a_t_now, .inl (cI, 1562, .inl t_now))]) [2, 1] [0] 0 ⟨hx, hb, hml, hown, hts⟩ (mX11_look l D cB cI cZ a_t a_t_now a_t_kept a_t_text a_t_passing a_t_order a_t_times t_thrown t_isKept t_length t_at_l5 t_fault_l5 t_open_l5 t_asked t_byGun t_prizeMost t_listed t_text H.size N r9 t_at_r10 e11) (cwV 0 hts gX11_part_X11_look rfl rfl rfl (by decide +kernel) ⟨Nat.le_of_ble_eq_true rfl, Nat.le_of_ble_eq_true rfl⟩) hK hN hZ hP hD hS hA rfl rfl rfl rfl rfl rfl rfl rfl hl.1 rfl (lv_room (Nat.le_of_ble_eq_true rfl)) dX11_part_13 ⟨Nat.le_of_ble_eq_true rfl, Nat.le_of_ble_eq_true rfl⟩ (fun H locs hP hD hS => ?_)
        have hP : va_P D vwCl [(a_t_now, .inl (cI, 1562, .inl t_now)), (a_t, .inr (11, [.int t_thrown, .ref a_t_now, .ref a_t_kept, .int t_isKept, .ref a_t_text, .int t_length, .ref a_t_passing, .int t_at_r10, .int t_fault_l5, .int t_open_l5, .int t_asked, .int t_byGun, .int t_prizeMost, .ref a_t_order, .ref a_t_times, .int t_listed])), (a_t_text, .inl (cB, 200, .inl t_text))] H := hP
        have hD : va_D A [(a_t_now, .inl (cI, 1562, .inl t_now)), (a_t, .inr (11, [.int t_thrown, .ref a_t_now, .ref a_t_kept, .int t_isKept, .ref a_t_text, .int t_length, .ref a_t_passing, .int t_at_r10, .int t_fault_l5, .int t_open_l5, .int t_asked, .int t_byGun, .int t_prizeMost, .ref a_t_order, .ref a_t_times, .int t_listed])), (a_t_text, .inl (cB, 200, .inl t_text))] := hD
        refine lv_bipush (v := (nI 38)) hx hb dX11_part_16 rfl ?_
        refine lv_icmp_ne (tgt := 53) hx hb dX11_part_18 (by decide) (fun c12 => ?_) (fun c12 => ?_)
        · have h := zz_f h c12
          exact X5_53 v1_5 t_at_r10 t_fault_l5 t_open_l5 _ _ _ h (hP.sub [1, 0, 2] rfl) (hD.sub [1, 0, 2] rfl rfl) hS (lv_sub hl [0, 1] rfl)
        · have h := zz_t h c12
          refine lv_aload_n hx hb dX11_part_21 rfl (lv_at hl 1 rfl) ?_
          refine lv_dup hx hb dX11_part_22 rfl ?_
          refine va_get (D := D) (ci := 11) (C := RX11) (T := TX11) (N := 16) hx hb hts qX11_part_X11 hown hK hP 1 rfl rfl 7 (by decide) (hts _ kX11_part_0) (fun _ h9 => h9) rfl dX11_part_23 ?_
          refine lv_iconst (v := (nI 1)) hx hb dX11_part_26 rfl ?_
          refine lv_iadd hx hb dX11_part_27 ?_
          refine va_put (D := D) (ci := 11) (ty := .int) (C := RX11) (T := TX11) (N := 16) hx hb hts qX11_part_X11 tyX11 tyX11_ok nmX11 hown hK hP hD hS 1 rfl rfl 7 (by decide) (hts _ kX11_part_0) (fun _ h9 => h9) rfl (by decide +kernel) rfl (by first | rfl | exact zz_fit) (Nat.le_of_ble_eq_true rfl) dX11_part_28 (fun H locs hP hD hS => ?_)
          have hP : va_P D vwCl [(a_t_now, .inl (cI, 1562, .inl t_now)), (a_t, .inr (11, [.int t_thrown, .ref a_t_now, .ref a_t_kept, .int t_isKept, .ref a_t_text, .int t_length, .ref a_t_passing, .int (t_at_r10 + (nI 1)), .int t_fault_l5, .int t_open_l5, .int t_asked, .int t_byGun, .int t_prizeMost, .ref a_t_order, .ref a_t_times, .int t_listed])), (a_t_text, .inl (cB, 200, .inl t_text))] H := hP
          have hD : va_D A [(a_t_now, .inl (cI, 1562, .inl t_now)), (a_t, .inr (11, [.int t_thrown, .ref a_t_now, .ref a_t_kept, .int t_isKept, .ref a_t_text, .int t_length, .ref a_t_passing, .int (t_at_r10 + (nI 1)), .int t_fault_l5, .int t_open_l5, .int t_asked, .int t_byGun, .int t_prizeMost, .ref a_t_order, .ref a_t_times, .int t_listed])), (a_t_text, .inl (cB, 200, .inl t_text))] := hD
          refine lv_aload_n hx hb dX11_part_31 rfl (lv_at hl 1 rfl) ?_
          obtain ⟨⟨b13, t_at_r14, t_fault_r15, t_open_r16⟩, e17, h⟩ := zz_b h
          dsimp only at h
          refine zVi (As := []) (rest := []) (C := RX11) (wr := []) [1, 0, 2] [] 0 ⟨hx, hb, hml, hown, hts⟩ (mX11_unit_1 l D cB cI cZ a_t a_t_now a_t_kept a_t_text a_t_passing a_t_order a_t_times t_thrown t_isKept t_length (t_at_r10 + (nI 1)) t_fault_l5 t_open_l5 t_asked t_byGun t_prizeMost t_listed t_now t_text H.size N T hT b13 t_at_r14 t_fault_r15 t_open_r16 e17) (cwV 0 hts gX11_part_X11_unit rfl rfl rfl (by decide +kernel) ⟨Nat.le_of_ble_eq_true rfl, Nat.le_of_ble_eq_true rfl⟩) hK hN hZ hP hD hS hA rfl rfl rfl rfl rfl rfl rfl rfl hl.1 rfl (lv_room (Nat.le_of_ble_eq_true rfl)) dX11_part_32 ⟨Nat.le_of_ble_eq_true rfl, Nat.le_of_ble_eq_true rfl⟩ (fun H locs hP hD hS => ?_)
          have hP : va_P D vwCl [(a_t, .inr (11, [.int t_thrown, .ref a_t_now, .ref a_t_kept, .int t_isKept, .ref a_t_text, .int t_length, .ref a_t_passing, .int t_at_r14, .int t_fault_r15, .int t_open_r16, .int t_asked, .int t_byGun, .int t_prizeMost, .ref a_t_order, .ref a_t_times, .int t_listed])), (a_t_now, .inl (cI, 1562, .inl t_now)), (a_t_text, .inl (cB, 200, .inl t_text))] H := hP
          have hD : va_D A [(a_t, .inr (11, [.int t_thrown, .ref a_t_now, .ref a_t_kept, .int t_isKept, .ref a_t_text, .int t_length, .ref a_t_passing, .int t_at_r14, .int t_fault_r15, .int t_open_r16, .int t_asked, .int t_byGun, .int t_prizeMost, .ref a_t_order, .ref a_t_times, .int t_listed])), (a_t_now, .inl (cI, 1562, .inl t_now)), (a_t_text, .inl (cB, 200, .inl t_text))] := hD
          refine lv_istore_n (lv' := [(2, .int (zb b13)), (1, .int (zb v1_5)), (0, .ref a_t)]) hx hb dX11_part_35 rfl hl (by decide) rfl (fun ls hl => ?_)
          refine lv_iload_n hx hb dX11_part_36 rfl (lv_at hl 1 rfl) ?_
          refine lv_if_eq (tgt := 48) hx hb dX11_part_37 (by decide) (fun c18 => ?_) (fun c18 => ?_)
          · have h := zz_t h c18
            refine lv_iconst (v := (nI 0)) hx hb dX11_part_48 rfl ?_
            refine lv_istore_n (lv' := [(1, .int (nI 0)), (2, .int (zb b13)), (0, .ref a_t)]) hx hb dX11_part_49 rfl hl (by decide) rfl (fun ls hl => ?_)
            refine lv_goto (tgt := 5) hx hb dX11_part_50 (by decide) ?_
            exact ih5 false t_at_r14 t_fault_r15 t_open_r16 _ _ _ h (hP.sub [0, 1, 2] rfl) (hD.sub [0, 1, 2] rfl rfl) hS (lv_sub hl [0, 2] rfl)
          · have h := zz_f h c18
            refine lv_iload_n hx hb dX11_part_40 rfl (lv_at hl 0 rfl) ?_
            refine lv_if_eq (tgt := 48) hx hb dX11_part_41 (by decide) (fun c19 => ?_) (fun c19 => ?_)
            · have h := zz_t h c19
              refine lv_iconst (v := (nI 0)) hx hb dX11_part_48 rfl ?_
              refine lv_istore_n (lv' := [(1, .int (nI 0)), (2, .int (zb b13)), (0, .ref a_t)]) hx hb dX11_part_49 rfl hl (by decide) rfl (fun ls hl => ?_)
              refine lv_goto (tgt := 5) hx hb dX11_part_50 (by decide) ?_
              exact ih5 false t_at_r14 t_fault_r15 t_open_r16 _ _ _ h (hP.sub [0, 1, 2] rfl) (hD.sub [0, 1, 2] rfl rfl) hS (lv_sub hl [0, 2] rfl)
            · have h := zz_f h c19
              refine lv_iconst (v := (nI 1)) hx hb dX11_part_44 rfl ?_
              refine lv_goto (tgt := 49) hx hb dX11_part_45 (by decide) ?_
              refine lv_istore_n (lv' := [(1, .int (nI 1)), (2, .int (zb b13)), (0, .ref a_t)]) hx hb dX11_part_49 rfl hl (by decide) rfl (fun ls hl => ?_)
              refine lv_goto (tgt := 5) hx hb dX11_part_50 (by decide) ?_
              exact ih5 true t_at_r14 t_fault_r15 t_open_r16 _ _ _ h (hP.sub [0, 1, 2] rfl) (hD.sub [0, 1, 2] rfl rfl) hS (lv_sub hl [0, 2] rfl)
  exact L5 N b1 t_at_r2 t_fault_r3 t_open_r4 _ _ _ h hP hD hS hl
set_option maxHeartbeats 4000000 in
set_option maxRecDepth 100000 in
theorem mX11_tests_1 (l : Launch) (D : va_G) (cB cI cZ : ClassId) (a_t : Nat) (a_t_now : Nat) (a_t_kept : Nat) (a_t_text : Nat) (a_t_passing : Nat) (a_t_order : Nat) (a_t_times : Nat) (t_thrown : Int32) (t_isKept : Int32) (t_length : Int32) (t_at : Int32) (t_fault : Int32) (t_open : Int32) (t_asked : Int32) (t_byGun : Int32) (t_prizeMost : Int32) (t_listed : Int32) (t_now : Nat → Int32) (t_text : Nat → Int32) (sz : Nat) (N : Nat) (b0 : Bool) (t_at' : Int32) (t_fault' : Int32) (t_open' : Int32) (h : fX11_testsD N 2 t_asked t_at t_fault t_length t_open t_now t_text = some (b0, t_at', t_fault', t_open')) : Met l yX11_tests wsX11_tests ({ frames := 7, cells := 0, slots := 0, locals := 158 } : Room) (va_Pc [.ref a_t] (zPre D (zT cB cI cZ) [(a_t, .inr (11, [.int t_thrown, .ref a_t_now, .ref a_t_kept, .int t_isKept, .ref a_t_text, .int t_length, .ref a_t_passing, .int t_at, .int t_fault, .int t_open, .int t_asked, .int t_byGun, .int t_prizeMost, .ref a_t_order, .ref a_t_times, .int t_listed])), (a_t_now, .inl (cI, 1562, .inl t_now)), (a_t_text, .inl (cB, 200, .inl t_text))] sz)) (zQi (zb b0) D (zT cB cI cZ) [(a_t, .inr (11, [.int t_thrown, .ref a_t_now, .ref a_t_kept, .int t_isKept, .ref a_t_text, .int t_length, .ref a_t_passing, .int t_at', .int t_fault', .int t_open', .int t_asked, .int t_byGun, .int t_prizeMost, .ref a_t_order, .ref a_t_times, .int t_listed])), (a_t_now, .inl (cI, 1562, .inl t_now)), (a_t_text, .inl (cB, 200, .inl t_text))] (va_A [(a_t, .inr (11, [.int t_thrown, .ref a_t_now, .ref a_t_kept, .int t_isKept, .ref a_t_text, .int t_length, .ref a_t_passing, .int t_at, .int t_fault, .int t_open, .int t_asked, .int t_byGun, .int t_prizeMost, .ref a_t_order, .ref a_t_times, .int t_listed])), (a_t_now, .inl (cI, 1562, .inl t_now)), (a_t_text, .inl (cB, 200, .inl t_text))] sz)) 0 0 (va_A [(a_t, .inr (11, [.int t_thrown, .ref a_t_now, .ref a_t_kept, .int t_isKept, .ref a_t_text, .int t_length, .ref a_t_passing, .int t_at, .int t_fault, .int t_open, .int t_asked, .int t_byGun, .int t_prizeMost, .ref a_t_order, .ref a_t_times, .int t_listed])), (a_t_now, .inl (cI, 1562, .inl t_now)), (a_t_text, .inl (cB, 200, .inl t_text))] sz) := by
  refine Met.ofW (cc := cX11_tests) (maxL := 3) (ret := (some .boolean)) (by decide) rfl ?_
  intro p e s m args below meth c s₁ B hml hv
  obtain ⟨rfl, hsz, hP, hK, hN, hZ, hD0⟩ := hv
  have hx := B.exec
  have hb := B.bytes
  have hr := B.returns
  have hts := atoms_spec (ws := wsX11_tests) B.pre
  have hown : s.vm.findClass RX11 = some m.cls := findClass_of_methodNamed B.named
  have hlocks := B.notSynchronized
  subst hsz
  have hD := hD0.self (sz := s.heap.size)
  generalize hAe : va_A [(a_t, .inr (11, [.int t_thrown, .ref a_t_now, .ref a_t_kept, .int t_isKept, .ref a_t_text, .int t_length, .ref a_t_passing, .int t_at, .int t_fault, .int t_open, .int t_asked, .int t_byGun, .int t_prizeMost, .ref a_t_order, .ref a_t_times, .int t_listed])), (a_t_now, .inl (cI, 1562, .inl t_now)), (a_t_text, .inl (cB, 200, .inl t_text))] s.heap.size = A at hD hZ ⊢
  have hA : ∀ q : Nat, s.heap.size ≤ q → A q := fun q h => by rw [← hAe]; exact Or.inr h
  have hS : va_S A s.heap s.heap [] := va_S.rf
  have hl := lv_entry ([.ref a_t]) (n := 3) (Nat.le_of_ble_eq_true rfl)
  rw [lg_entry_eq]
  generalize (lg_sl ([.ref a_t]) ++ List.replicate (3 - (lg_sl ([.ref a_t])).length) Slot.unset).toArray = ls at hl ⊢
  have hl : lv_has ls 3 [(0, .ref a_t)] := hl
  obtain ⟨T, hT⟩ : ∃ T, T = fX11_testsD N 1 := ⟨_, rfl⟩; have h : fX11_tests_ T N t_asked t_at t_fault t_length t_open t_now t_text = some (b0, t_at', t_fault', t_open') := by rw [hT]; exact h
  unfold fX11_tests_ at h
  refine lv_aload_n hx hb dX11_tests_0 rfl (lv_at hl 0 rfl) ?_
  obtain ⟨⟨b1, t_at_r2, t_fault_r3, t_open_r4⟩, e5, h⟩ := zz_b h
  dsimp only at h
  refine zVi (As := []) (rest := []) (C := RX11) (wr := []) [0, 1, 2] [] 0 ⟨hx, hb, hml, hown, hts⟩ (mX11_part_1 l D cB cI cZ a_t a_t_now a_t_kept a_t_text a_t_passing a_t_order a_t_times t_thrown t_isKept t_length t_at t_fault t_open t_asked t_byGun t_prizeMost t_listed t_now t_text s.heap.size N T hT b1 t_at_r2 t_fault_r3 t_open_r4 e5) (cwV 0 hts gX11_tests_X11_part rfl rfl rfl (by decide +kernel) ⟨Nat.le_of_ble_eq_true rfl, Nat.le_of_ble_eq_true rfl⟩) hK hN hZ hP hD hS hA rfl rfl rfl rfl rfl rfl rfl rfl hl.1 rfl (lv_room (Nat.le_of_ble_eq_true rfl)) dX11_tests_1 ⟨Nat.le_of_ble_eq_true rfl, Nat.le_of_ble_eq_true rfl⟩ (fun H locs hP hD hS => ?_)
  have hP : va_P D vwCl [(a_t, .inr (11, [.int t_thrown, .ref a_t_now, .ref a_t_kept, .int t_isKept, .ref a_t_text, .int t_length, .ref a_t_passing, .int t_at_r2, .int t_fault_r3, .int t_open_r4, .int t_asked, .int t_byGun, .int t_prizeMost, .ref a_t_order, .ref a_t_times, .int t_listed])), (a_t_now, .inl (cI, 1562, .inl t_now)), (a_t_text, .inl (cB, 200, .inl t_text))] H := hP
  have hD : va_D A [(a_t, .inr (11, [.int t_thrown, .ref a_t_now, .ref a_t_kept, .int t_isKept, .ref a_t_text, .int t_length, .ref a_t_passing, .int t_at_r2, .int t_fault_r3, .int t_open_r4, .int t_asked, .int t_byGun, .int t_prizeMost, .ref a_t_order, .ref a_t_times, .int t_listed])), (a_t_now, .inl (cI, 1562, .inl t_now)), (a_t_text, .inl (cB, 200, .inl t_text))] := hD
  refine lv_istore_n (lv' := [(1, .int (zb b1)), (0, .ref a_t)]) hx hb dX11_tests_4 rfl hl (by decide) rfl (fun ls hl => ?_)
  have X5_53 : ∀ (v1_5 : Bool) (t_at_l5 : Int32) (t_fault_l5 : Int32) (t_open_l5 : Int32) (H : Heap) (locs : List Loc) (ls : Array Slot), some (v1_5, t_at_l5, t_fault_l5, t_open_l5) = some (b0, t_at', t_fault', t_open') → va_P D vwCl [(a_t, .inr (11, [.int t_thrown, .ref a_t_now, .ref a_t_kept, .int t_isKept, .ref a_t_text, .int t_length, .ref a_t_passing, .int t_at_l5, .int t_fault_l5, .int t_open_l5, .int t_asked, .int t_byGun, .int t_prizeMost, .ref a_t_order, .ref a_t_times, .int t_listed])), (a_t_now, .inl (cI, 1562, .inl t_now)), (a_t_text, .inl (cB, 200, .inl t_text))] H → va_D A [(a_t, .inr (11, [.int t_thrown, .ref a_t_now, .ref a_t_kept, .int t_isKept, .ref a_t_text, .int t_length, .ref a_t_passing, .int t_at_l5, .int t_fault_l5, .int t_open_l5, .int t_asked, .int t_byGun, .int t_prizeMost, .ref a_t_order, .ref a_t_times, .int t_listed])), (a_t_now, .inl (cI, 1562, .inl t_now)), (a_t_text, .inl (cB, 200, .inl t_text))] → va_S A s.heap H locs → lv_has ls 3 [(1, .int (zb v1_5)), (0, .ref a_t)] → W p l e (headSpec wsX11_tests ({ frames := 7, cells := 0, slots := 0, locals := 158 } : Room)).room s m #[Value.ref a_t] below meth c H locs 0 0 (MQ below (zQi (zb b0) D (zT cB cI cZ) [(a_t, .inr (11, [.int t_thrown, .ref a_t_now, .ref a_t_kept, .int t_isKept, .ref a_t_text, .int t_length, .ref a_t_passing, .int t_at', .int t_fault', .int t_open', .int t_asked, .int t_byGun, .int t_prizeMost, .ref a_t_order, .ref a_t_times, .int t_listed])), (a_t_now, .inl (cI, 1562, .inl t_now)), (a_t_text, .inl (cB, 200, .inl t_text))] A) #[Value.ref a_t] s 0 0 A) (F0 m 53 ls []) := by
    intro v1_5 t_at_l5 t_fault_l5 t_open_l5 H locs ls h hP hD hS hl
    refine lv_iload_n hx hb dX11_tests_53 rfl (lv_at hl 0 rfl) ?_
    obtain ⟨j0_, g_⟩ := Prod.mk.inj (Option.some.inj h)
    obtain ⟨j1_, g_⟩ := Prod.mk.inj g_
    obtain ⟨j2_, g_⟩ := Prod.mk.inj g_
    have j3_ := g_
    subst j0_
    subst j1_
    subst j2_
    subst j3_
    exact W.zret (v := (zb v1_5)) hx hb hr zz_n (fun t ht hW => ⟨⟨_, (), rfl, rfl, zPost.of hP hD hK ht hW [0, 1, 2] rfl rfl rfl⟩, hS.F ht⟩) hS.2.2 dX11_tests_54
  have L5 : ∀ (n : Nat) (v1_5 : Bool) (t_at_l5 : Int32) (t_fault_l5 : Int32) (t_open_l5 : Int32) (H : Heap) (locs : List Loc) (ls : Array Slot), fX11_tests_L5 N T t_length t_asked t_now t_text (fun (v1_5 : Bool) (t_at_l5 : Int32) (t_fault_l5 : Int32) (t_open_l5 : Int32) => some (v1_5, t_at_l5, t_fault_l5, t_open_l5)) n v1_5 t_at_l5 t_fault_l5 t_open_l5 = some (b0, t_at', t_fault', t_open') → va_P D vwCl [(a_t, .inr (11, [.int t_thrown, .ref a_t_now, .ref a_t_kept, .int t_isKept, .ref a_t_text, .int t_length, .ref a_t_passing, .int t_at_l5, .int t_fault_l5, .int t_open_l5, .int t_asked, .int t_byGun, .int t_prizeMost, .ref a_t_order, .ref a_t_times, .int t_listed])), (a_t_now, .inl (cI, 1562, .inl t_now)), (a_t_text, .inl (cB, 200, .inl t_text))] H → va_D A [(a_t, .inr (11, [.int t_thrown, .ref a_t_now, .ref a_t_kept, .int t_isKept, .ref a_t_text, .int t_length, .ref a_t_passing, .int t_at_l5, .int t_fault_l5, .int t_open_l5, .int t_asked, .int t_byGun, .int t_prizeMost, .ref a_t_order, .ref a_t_times, .int t_listed])), (a_t_now, .inl (cI, 1562, .inl t_now)), (a_t_text, .inl (cB, 200, .inl t_text))] → va_S A s.heap H locs → lv_has ls 3 [(1, .int (zb v1_5)), (0, .ref a_t)] → W p l e (headSpec wsX11_tests ({ frames := 7, cells := 0, slots := 0, locals := 158 } : Room)).room s m #[Value.ref a_t] below meth c H locs 0 0 (MQ below (zQi (zb b0) D (zT cB cI cZ) [(a_t, .inr (11, [.int t_thrown, .ref a_t_now, .ref a_t_kept, .int t_isKept, .ref a_t_text, .int t_length, .ref a_t_passing, .int t_at', .int t_fault', .int t_open', .int t_asked, .int t_byGun, .int t_prizeMost, .ref a_t_order, .ref a_t_times, .int t_listed])), (a_t_now, .inl (cI, 1562, .inl t_now)), (a_t_text, .inl (cB, 200, .inl t_text))] A) #[Value.ref a_t] s 0 0 A) (F0 m 5 ls []) := by
    intro n
    induction n with
    | zero => intro _ _ _ _ H locs ls h hP hD hS hl; cases h
    | succ n5 ih5 =>
      intro v1_5 t_at_l5 t_fault_l5 t_open_l5 H locs ls h hP hD hS hl
      rw [fX11_tests_L5.eq_2] at h
      refine lv_aload_n hx hb dX11_tests_5 rfl (lv_at hl 1 rfl) ?_
      obtain ⟨b6, e7, h⟩ := zz_b h
      refine zVi (As := []) (rest := []) (C := RX11) (wr := [(a_t_now, .inl (cI, 1562, .inl t_now)), (a_t_text, .inl (cB, 200, .inl t_text))]) [0] [1, 2] 0 ⟨hx, hb, hml, hown, hts⟩ (mX11_isFine l D cB cI cZ a_t a_t_now a_t_kept a_t_text a_t_passing a_t_order a_t_times t_thrown t_isKept t_length t_at_l5 t_fault_l5 t_open_l5 t_asked t_byGun t_prizeMost t_listed H.size b6 e7) (cwV 0 hts gX11_tests_X11_isFine rfl rfl rfl (by decide +kernel) ⟨Nat.le_of_ble_eq_true rfl, Nat.le_of_ble_eq_true rfl⟩) hK hN hZ hP hD hS hA rfl rfl rfl rfl rfl rfl rfl rfl hl.1 rfl (lv_room (Nat.le_of_ble_eq_true rfl)) dX11_tests_6 ⟨Nat.le_of_ble_eq_true rfl, Nat.le_of_ble_eq_true rfl⟩ (fun H locs hP hD hS => ?_)
      have hP : va_P D vwCl [(a_t_now, .inl (cI, 1562, .inl t_now)), (a_t_text, .inl (cB, 200, .inl t_text)), (a_t, .inr (11, [.int t_thrown, .ref a_t_now, .ref a_t_kept, .int t_isKept, .ref a_t_text, .int t_length, .ref a_t_passing, .int t_at_l5, .int t_fault_l5, .int t_open_l5, .int t_asked, .int t_byGun, .int t_prizeMost, .ref a_t_order, .ref a_t_times, .int t_listed]))] H := hP
      have hD : va_D A [(a_t_now, .inl (cI, 1562, .inl t_now)), (a_t_text, .inl (cB, 200, .inl t_text)), (a_t, .inr (11, [.int t_thrown, .ref a_t_now, .ref a_t_kept, .int t_isKept, .ref a_t_text, .int t_length, .ref a_t_passing, .int t_at_l5, .int t_fault_l5, .int t_open_l5, .int t_asked, .int t_byGun, .int t_prizeMost, .ref a_t_order, .ref a_t_times, .int t_listed]))] := hD
      refine lv_if_eq (tgt := 53) hx hb dX11_tests_9 (by decide) (fun c8 => ?_) (fun c8 => ?_)
      · have h := zz_t h c8
        exact X5_53 v1_5 t_at_l5 t_fault_l5 t_open_l5 _ _ _ h (hP.sub [2, 0, 1] rfl) (hD.sub [2, 0, 1] rfl rfl) hS (lv_sub hl [0, 1] rfl)
      · have h := zz_f h c8
        refine lv_aload_n hx hb dX11_tests_12 rfl (lv_at hl 1 rfl) ?_
        obtain ⟨⟨r9, t_at_r10⟩, e11, h⟩ := zz_b h
        dsimp only at h
        refine zVi (As := []) (rest := []) (C := RX11) (wr := [(a_t_now, .inl (cI, 1562, .inl t_now))]) [2, 1] [0] 0 ⟨hx, hb, hml, hown, hts⟩ (mX11_look l D cB cI cZ a_t a_t_now a_t_kept a_t_text a_t_passing a_t_order a_t_times t_thrown t_isKept t_length t_at_l5 t_fault_l5 t_open_l5 t_asked t_byGun t_prizeMost t_listed t_text H.size N r9 t_at_r10 e11) (cwV 0 hts gX11_tests_X11_look rfl rfl rfl (by decide +kernel) ⟨Nat.le_of_ble_eq_true rfl, Nat.le_of_ble_eq_true rfl⟩) hK hN hZ hP hD hS hA rfl rfl rfl rfl rfl rfl rfl rfl hl.1 rfl (lv_room (Nat.le_of_ble_eq_true rfl)) dX11_tests_13 ⟨Nat.le_of_ble_eq_true rfl, Nat.le_of_ble_eq_true rfl⟩ (fun H locs hP hD hS => ?_)
        have hP : va_P D vwCl [(a_t_now, .inl (cI, 1562, .inl t_now)), (a_t, .inr (11, [.int t_thrown, .ref a_t_now, .ref a_t_kept, .int t_isKept, .ref a_t_text, .int t_length, .ref a_t_passing, .int t_at_r10, .int t_fault_l5, .int t_open_l5, .int t_asked, .int t_byGun, .int t_prizeMost, .ref a_t_order, .ref a_t_times, .int t_listed])), (a_t_text, .inl (cB, 200, .inl t_text))] H := hP
        have hD : va_D A [(a_t_now, .inl (cI, 1562, .inl t_now)), (a_t, .inr (11, [.int t_thrown, .ref a_t_now, .ref a_t_kept, .int t_isKept, .ref a_t_text, .int t_length, .ref a_t_passing, .int t_at_r10, .int t_fault_l5, .int t_open_l5, .int t_asked, .int t_byGun, .int t_prizeMost, .ref a_t_order, .ref a_t_times, .int t_listed])), (a_t_text, .inl (cB, 200, .inl t_text))] := hD
        refine lv_bipush (v := (nI 124)) hx hb dX11_tests_16 rfl ?_
        refine lv_icmp_ne (tgt := 53) hx hb dX11_tests_18 (by decide) (fun c12 => ?_) (fun c12 => ?_)
        · have h := zz_f h c12
          exact X5_53 v1_5 t_at_r10 t_fault_l5 t_open_l5 _ _ _ h (hP.sub [1, 0, 2] rfl) (hD.sub [1, 0, 2] rfl rfl) hS (lv_sub hl [0, 1] rfl)
        · have h := zz_t h c12
          refine lv_aload_n hx hb dX11_tests_21 rfl (lv_at hl 1 rfl) ?_
          refine lv_dup hx hb dX11_tests_22 rfl ?_
          refine va_get (D := D) (ci := 11) (C := RX11) (T := TX11) (N := 16) hx hb hts qX11_tests_X11 hown hK hP 1 rfl rfl 7 (by decide) (hts _ kX11_tests_0) (fun _ h9 => h9) rfl dX11_tests_23 ?_
          refine lv_iconst (v := (nI 1)) hx hb dX11_tests_26 rfl ?_
          refine lv_iadd hx hb dX11_tests_27 ?_
          refine va_put (D := D) (ci := 11) (ty := .int) (C := RX11) (T := TX11) (N := 16) hx hb hts qX11_tests_X11 tyX11 tyX11_ok nmX11 hown hK hP hD hS 1 rfl rfl 7 (by decide) (hts _ kX11_tests_0) (fun _ h9 => h9) rfl (by decide +kernel) rfl (by first | rfl | exact zz_fit) (Nat.le_of_ble_eq_true rfl) dX11_tests_28 (fun H locs hP hD hS => ?_)
          have hP : va_P D vwCl [(a_t_now, .inl (cI, 1562, .inl t_now)), (a_t, .inr (11, [.int t_thrown, .ref a_t_now, .ref a_t_kept, .int t_isKept, .ref a_t_text, .int t_length, .ref a_t_passing, .int (t_at_r10 + (nI 1)), .int t_fault_l5, .int t_open_l5, .int t_asked, .int t_byGun, .int t_prizeMost, .ref a_t_order, .ref a_t_times, .int t_listed])), (a_t_text, .inl (cB, 200, .inl t_text))] H := hP
          have hD : va_D A [(a_t_now, .inl (cI, 1562, .inl t_now)), (a_t, .inr (11, [.int t_thrown, .ref a_t_now, .ref a_t_kept, .int t_isKept, .ref a_t_text, .int t_length, .ref a_t_passing, .int (t_at_r10 + (nI 1)), .int t_fault_l5, .int t_open_l5, .int t_asked, .int t_byGun, .int t_prizeMost, .ref a_t_order, .ref a_t_times, .int t_listed])), (a_t_text, .inl (cB, 200, .inl t_text))] := hD
          refine lv_aload_n hx hb dX11_tests_31 rfl (lv_at hl 1 rfl) ?_
          obtain ⟨⟨b13, t_at_r14, t_fault_r15, t_open_r16⟩, e17, h⟩ := zz_b h
          dsimp only at h
          refine zVi (As := []) (rest := []) (C := RX11) (wr := []) [1, 0, 2] [] 0 ⟨hx, hb, hml, hown, hts⟩ (mX11_part_1 l D cB cI cZ a_t a_t_now a_t_kept a_t_text a_t_passing a_t_order a_t_times t_thrown t_isKept t_length (t_at_r10 + (nI 1)) t_fault_l5 t_open_l5 t_asked t_byGun t_prizeMost t_listed t_now t_text H.size N T hT b13 t_at_r14 t_fault_r15 t_open_r16 e17) (cwV 0 hts gX11_tests_X11_part rfl rfl rfl (by decide +kernel) ⟨Nat.le_of_ble_eq_true rfl, Nat.le_of_ble_eq_true rfl⟩) hK hN hZ hP hD hS hA rfl rfl rfl rfl rfl rfl rfl rfl hl.1 rfl (lv_room (Nat.le_of_ble_eq_true rfl)) dX11_tests_32 ⟨Nat.le_of_ble_eq_true rfl, Nat.le_of_ble_eq_true rfl⟩ (fun H locs hP hD hS => ?_)
          have hP : va_P D vwCl [(a_t, .inr (11, [.int t_thrown, .ref a_t_now, .ref a_t_kept, .int t_isKept, .ref a_t_text, .int t_length, .ref a_t_passing, .int t_at_r14, .int t_fault_r15, .int t_open_r16, .int t_asked, .int t_byGun, .int t_prizeMost, .ref a_t_order, .ref a_t_times, .int t_listed])), (a_t_now, .inl (cI, 1562, .inl t_now)), (a_t_text, .inl (cB, 200, .inl t_text))] H := hP
          have hD : va_D A [(a_t, .inr (11, [.int t_thrown, .ref a_t_now, .ref a_t_kept, .int t_isKept, .ref a_t_text, .int t_length, .ref a_t_passing, .int t_at_r14, .int t_fault_r15, .int t_open_r16, .int t_asked, .int t_byGun, .int t_prizeMost, .ref a_t_order, .ref a_t_times, .int t_listed])), (a_t_now, .inl (cI, 1562, .inl t_now)), (a_t_text, .inl (cB, 200, .inl t_text))] := hD
          refine lv_istore_n (lv' := [(2, .int (zb b13)), (1, .int (zb v1_5)), (0, .ref a_t)]) hx hb dX11_tests_35 rfl hl (by decide) rfl (fun ls hl => ?_)
          refine lv_iload_n hx hb dX11_tests_36 rfl (lv_at hl 1 rfl) ?_
          refine lv_if_ne (tgt := 44) hx hb dX11_tests_37 (by decide) (fun c18 => ?_) (fun c18 => ?_)
          · have h := zz_f h c18
            refine lv_iconst (v := (nI 1)) hx hb dX11_tests_44 rfl ?_
            refine lv_goto (tgt := 49) hx hb dX11_tests_45 (by decide) ?_
            refine lv_istore_n (lv' := [(1, .int (nI 1)), (2, .int (zb b13)), (0, .ref a_t)]) hx hb dX11_tests_49 rfl hl (by decide) rfl (fun ls hl => ?_)
            refine lv_goto (tgt := 5) hx hb dX11_tests_50 (by decide) ?_
            exact ih5 true t_at_r14 t_fault_r15 t_open_r16 _ _ _ h (hP.sub [0, 1, 2] rfl) (hD.sub [0, 1, 2] rfl rfl) hS (lv_sub hl [0, 2] rfl)
          · have h := zz_t h c18
            refine lv_iload_n hx hb dX11_tests_40 rfl (lv_at hl 0 rfl) ?_
            refine lv_if_eq (tgt := 48) hx hb dX11_tests_41 (by decide) (fun c19 => ?_) (fun c19 => ?_)
            · have h := zz_t h c19
              refine lv_iconst (v := (nI 0)) hx hb dX11_tests_48 rfl ?_
              refine lv_istore_n (lv' := [(1, .int (nI 0)), (2, .int (zb b13)), (0, .ref a_t)]) hx hb dX11_tests_49 rfl hl (by decide) rfl (fun ls hl => ?_)
              refine lv_goto (tgt := 5) hx hb dX11_tests_50 (by decide) ?_
              exact ih5 false t_at_r14 t_fault_r15 t_open_r16 _ _ _ h (hP.sub [0, 1, 2] rfl) (hD.sub [0, 1, 2] rfl rfl) hS (lv_sub hl [0, 2] rfl)
            · have h := zz_f h c19
              refine lv_iconst (v := (nI 1)) hx hb dX11_tests_44 rfl ?_
              refine lv_goto (tgt := 49) hx hb dX11_tests_45 (by decide) ?_
              refine lv_istore_n (lv' := [(1, .int (nI 1)), (2, .int (zb b13)), (0, .ref a_t)]) hx hb dX11_tests_49 rfl hl (by decide) rfl (fun ls hl => ?_)
              refine lv_goto (tgt := 5) hx hb dX11_tests_50 (by decide) ?_
              exact ih5 true t_at_r14 t_fault_r15 t_open_r16 _ _ _ h (hP.sub [0, 1, 2] rfl) (hD.sub [0, 1, 2] rfl rfl) hS (lv_sub hl [0, 2] rfl)
  exact L5 N b1 t_at_r2 t_fault_r3 t_open_r4 _ _ _ h hP hD hS hl
set_option maxHeartbeats 4000000 in
set_option maxRecDepth 100000 in
theorem mX11_unit_2 (l : Launch) (D : va_G) (cB cI cZ : ClassId) (a_t : Nat) (a_t_now : Nat) (a_t_kept : Nat) (a_t_text : Nat) (a_t_passing : Nat) (a_t_order : Nat) (a_t_times : Nat) (t_thrown : Int32) (t_isKept : Int32) (t_length : Int32) (t_at : Int32) (t_fault : Int32) (t_open : Int32) (t_asked : Int32) (t_byGun : Int32) (t_prizeMost : Int32) (t_listed : Int32) (t_now : Nat → Int32) (t_text : Nat → Int32) (sz : Nat) (N : Nat) (T : Int32 → Int32 → Int32 → Int32 → Int32 → (Nat → Int32) → (Nat → Int32) → Option (Bool × Int32 × Int32 × Int32)) (hT : T = fX11_testsD N 2) (b0 : Bool) (t_at' : Int32) (t_fault' : Int32) (t_open' : Int32) (h : fX11_unit T N t_asked t_at t_fault t_length t_open t_now t_text = some (b0, t_at', t_fault', t_open')) : Met l yX11_unit wsX11_unit ({ frames := 8, cells := 0, slots := 0, locals := 180 } : Room) (va_Pc [.ref a_t] (zPre D (zT cB cI cZ) [(a_t, .inr (11, [.int t_thrown, .ref a_t_now, .ref a_t_kept, .int t_isKept, .ref a_t_text, .int t_length, .ref a_t_passing, .int t_at, .int t_fault, .int t_open, .int t_asked, .int t_byGun, .int t_prizeMost, .ref a_t_order, .ref a_t_times, .int t_listed])), (a_t_now, .inl (cI, 1562, .inl t_now)), (a_t_text, .inl (cB, 200, .inl t_text))] sz)) (zQi (zb b0) D (zT cB cI cZ) [(a_t, .inr (11, [.int t_thrown, .ref a_t_now, .ref a_t_kept, .int t_isKept, .ref a_t_text, .int t_length, .ref a_t_passing, .int t_at', .int t_fault', .int t_open', .int t_asked, .int t_byGun, .int t_prizeMost, .ref a_t_order, .ref a_t_times, .int t_listed])), (a_t_now, .inl (cI, 1562, .inl t_now)), (a_t_text, .inl (cB, 200, .inl t_text))] (va_A [(a_t, .inr (11, [.int t_thrown, .ref a_t_now, .ref a_t_kept, .int t_isKept, .ref a_t_text, .int t_length, .ref a_t_passing, .int t_at, .int t_fault, .int t_open, .int t_asked, .int t_byGun, .int t_prizeMost, .ref a_t_order, .ref a_t_times, .int t_listed])), (a_t_now, .inl (cI, 1562, .inl t_now)), (a_t_text, .inl (cB, 200, .inl t_text))] sz)) 0 0 (va_A [(a_t, .inr (11, [.int t_thrown, .ref a_t_now, .ref a_t_kept, .int t_isKept, .ref a_t_text, .int t_length, .ref a_t_passing, .int t_at, .int t_fault, .int t_open, .int t_asked, .int t_byGun, .int t_prizeMost, .ref a_t_order, .ref a_t_times, .int t_listed])), (a_t_now, .inl (cI, 1562, .inl t_now)), (a_t_text, .inl (cB, 200, .inl t_text))] sz) := by
  refine Met.ofW (cc := cX11_unit) (maxL := 6) (ret := (some .boolean)) (by decide) rfl ?_
  intro p e s m args below meth c s₁ B hml hv
  obtain ⟨rfl, hsz, hP, hK, hN, hZ, hD0⟩ := hv
  have hx := B.exec
  have hb := B.bytes
  have hr := B.returns
  have hts := atoms_spec (ws := wsX11_unit) B.pre
  have hown : s.vm.findClass RX11 = some m.cls := findClass_of_methodNamed B.named
  have hlocks := B.notSynchronized
  subst hsz
  have hD := hD0.self (sz := s.heap.size)
  generalize hAe : va_A [(a_t, .inr (11, [.int t_thrown, .ref a_t_now, .ref a_t_kept, .int t_isKept, .ref a_t_text, .int t_length, .ref a_t_passing, .int t_at, .int t_fault, .int t_open, .int t_asked, .int t_byGun, .int t_prizeMost, .ref a_t_order, .ref a_t_times, .int t_listed])), (a_t_now, .inl (cI, 1562, .inl t_now)), (a_t_text, .inl (cB, 200, .inl t_text))] s.heap.size = A at hD hZ ⊢
  have hA : ∀ q : Nat, s.heap.size ≤ q → A q := fun q h => by rw [← hAe]; exact Or.inr h
  have hS : va_S A s.heap s.heap [] := va_S.rf
  have hl := lv_entry ([.ref a_t]) (n := 6) (Nat.le_of_ble_eq_true rfl)
  rw [lg_entry_eq]
  generalize (lg_sl ([.ref a_t]) ++ List.replicate (6 - (lg_sl ([.ref a_t])).length) Slot.unset).toArray = ls at hl ⊢
  have hl : lv_has ls 6 [(0, .ref a_t)] := hl
  unfold fX11_unit at h
  refine lv_aload_n hx hb dX11_unit_0 rfl (lv_at hl 0 rfl) ?_
  obtain ⟨⟨r1, t_at_r2⟩, e3, h⟩ := zz_b h
  dsimp only at h
  refine zVi (As := []) (rest := []) (C := RX11) (wr := [(a_t_now, .inl (cI, 1562, .inl t_now))]) [0, 2] [1] 0 ⟨hx, hb, hml, hown, hts⟩ (mX11_look l D cB cI cZ a_t a_t_now a_t_kept a_t_text a_t_passing a_t_order a_t_times t_thrown t_isKept t_length t_at t_fault t_open t_asked t_byGun t_prizeMost t_listed t_text s.heap.size N r1 t_at_r2 e3) (cwV 0 hts gX11_unit_X11_look rfl rfl rfl (by decide +kernel) ⟨Nat.le_of_ble_eq_true rfl, Nat.le_of_ble_eq_true rfl⟩) hK hN hZ hP hD hS hA rfl rfl rfl rfl rfl rfl rfl rfl hl.1 rfl (lv_room (Nat.le_of_ble_eq_true rfl)) dX11_unit_1 ⟨Nat.le_of_ble_eq_true rfl, Nat.le_of_ble_eq_true rfl⟩ (fun H locs hP hD hS => ?_)
  have hP : va_P D vwCl [(a_t_now, .inl (cI, 1562, .inl t_now)), (a_t, .inr (11, [.int t_thrown, .ref a_t_now, .ref a_t_kept, .int t_isKept, .ref a_t_text, .int t_length, .ref a_t_passing, .int t_at_r2, .int t_fault, .int t_open, .int t_asked, .int t_byGun, .int t_prizeMost, .ref a_t_order, .ref a_t_times, .int t_listed])), (a_t_text, .inl (cB, 200, .inl t_text))] H := hP
  have hD : va_D A [(a_t_now, .inl (cI, 1562, .inl t_now)), (a_t, .inr (11, [.int t_thrown, .ref a_t_now, .ref a_t_kept, .int t_isKept, .ref a_t_text, .int t_length, .ref a_t_passing, .int t_at_r2, .int t_fault, .int t_open, .int t_asked, .int t_byGun, .int t_prizeMost, .ref a_t_order, .ref a_t_times, .int t_listed])), (a_t_text, .inl (cB, 200, .inl t_text))] := hD
  refine lv_istore_n (lv' := [(1, .int r1), (0, .ref a_t)]) hx hb dX11_unit_4 rfl hl (by decide) rfl (fun ls hl => ?_)
  refine lv_iload_n hx hb dX11_unit_5 rfl (lv_at hl 0 rfl) ?_
  refine lv_bipush (v := (nI 40)) hx hb dX11_unit_6 rfl ?_
  refine lv_icmp_ne (tgt := 69) hx hb dX11_unit_8 (by decide) (fun c4 => ?_) (fun c4 => ?_)
  · have h := zz_f h c4
    refine lv_iload_n hx hb dX11_unit_69 rfl (lv_at hl 0 rfl) ?_
    refine lv_bipush (v := (nI 115)) hx hb dX11_unit_70 rfl ?_
    have J120 : ∀ (s0_j120 : Int32) (H : Heap) (locs : List Loc) (ls : Array Slot), fX11_unit_J120 N t_length t_fault t_open t_asked t_now t_text t_at_r2 s0_j120 = some (b0, t_at', t_fault', t_open') → va_P D vwCl [(a_t_now, .inl (cI, 1562, .inl t_now)), (a_t, .inr (11, [.int t_thrown, .ref a_t_now, .ref a_t_kept, .int t_isKept, .ref a_t_text, .int t_length, .ref a_t_passing, .int t_at_r2, .int t_fault, .int t_open, .int t_asked, .int t_byGun, .int t_prizeMost, .ref a_t_order, .ref a_t_times, .int t_listed])), (a_t_text, .inl (cB, 200, .inl t_text))] H → va_D A [(a_t_now, .inl (cI, 1562, .inl t_now)), (a_t, .inr (11, [.int t_thrown, .ref a_t_now, .ref a_t_kept, .int t_isKept, .ref a_t_text, .int t_length, .ref a_t_passing, .int t_at_r2, .int t_fault, .int t_open, .int t_asked, .int t_byGun, .int t_prizeMost, .ref a_t_order, .ref a_t_times, .int t_listed])), (a_t_text, .inl (cB, 200, .inl t_text))] → va_S A s.heap H locs → lv_has ls 6 [(1, .int r1), (0, .ref a_t)] → W p l e (headSpec wsX11_unit ({ frames := 8, cells := 0, slots := 0, locals := 180 } : Room)).room s m #[Value.ref a_t] below meth c H locs 0 0 (MQ below (zQi (zb b0) D (zT cB cI cZ) [(a_t, .inr (11, [.int t_thrown, .ref a_t_now, .ref a_t_kept, .int t_isKept, .ref a_t_text, .int t_length, .ref a_t_passing, .int t_at', .int t_fault', .int t_open', .int t_asked, .int t_byGun, .int t_prizeMost, .ref a_t_order, .ref a_t_times, .int t_listed])), (a_t_now, .inl (cI, 1562, .inl t_now)), (a_t_text, .inl (cB, 200, .inl t_text))] A) #[Value.ref a_t] s 0 0 A) (F0 m 120 ls [.int s0_j120]) := by
      intro s0_j120 H locs ls h hP hD hS hl
      unfold fX11_unit_J120 at h
      refine lv_istore_n (lv' := [(2, .int s0_j120), (1, .int r1), (0, .ref a_t)]) hx hb dX11_unit_120 rfl hl (by decide) rfl (fun ls hl => ?_)
      refine lv_iload_n hx hb dX11_unit_121 rfl (lv_at hl 0 rfl) ?_
      refine lv_iconst (v := (-1 : Int32)) hx hb dX11_unit_122 rfl ?_
      refine lv_icmp_ne (tgt := 132) hx hb dX11_unit_123 (by decide) (fun c5 => ?_) (fun c5 => ?_)
      · have h := zz_f h c5
        refine lv_aload_n hx hb dX11_unit_132 rfl (lv_at hl 2 rfl) ?_
        refine lv_dup hx hb dX11_unit_133 rfl ?_
        refine va_get (D := D) (ci := 11) (C := RX11) (T := TX11) (N := 16) hx hb hts qX11_unit_X11 hown hK hP 1 rfl rfl 7 (by decide) (hts _ kX11_unit_0) (fun _ h9 => h9) rfl dX11_unit_134 ?_
        refine lv_iconst (v := (nI 1)) hx hb dX11_unit_137 rfl ?_
        refine lv_iadd hx hb dX11_unit_138 ?_
        refine va_put (D := D) (ci := 11) (ty := .int) (C := RX11) (T := TX11) (N := 16) hx hb hts qX11_unit_X11 tyX11 tyX11_ok nmX11 hown hK hP hD hS 1 rfl rfl 7 (by decide) (hts _ kX11_unit_0) (fun _ h9 => h9) rfl (by decide +kernel) rfl (by first | rfl | exact zz_fit) (Nat.le_of_ble_eq_true rfl) dX11_unit_139 (fun H locs hP hD hS => ?_)
        have hP : va_P D vwCl [(a_t_now, .inl (cI, 1562, .inl t_now)), (a_t, .inr (11, [.int t_thrown, .ref a_t_now, .ref a_t_kept, .int t_isKept, .ref a_t_text, .int t_length, .ref a_t_passing, .int (t_at_r2 + (nI 1)), .int t_fault, .int t_open, .int t_asked, .int t_byGun, .int t_prizeMost, .ref a_t_order, .ref a_t_times, .int t_listed])), (a_t_text, .inl (cB, 200, .inl t_text))] H := hP
        have hD : va_D A [(a_t_now, .inl (cI, 1562, .inl t_now)), (a_t, .inr (11, [.int t_thrown, .ref a_t_now, .ref a_t_kept, .int t_isKept, .ref a_t_text, .int t_length, .ref a_t_passing, .int (t_at_r2 + (nI 1)), .int t_fault, .int t_open, .int t_asked, .int t_byGun, .int t_prizeMost, .ref a_t_order, .ref a_t_times, .int t_listed])), (a_t_text, .inl (cB, 200, .inl t_text))] := hD
        refine lv_aload_n hx hb dX11_unit_142 rfl (lv_at hl 2 rfl) ?_
        obtain ⟨⟨r6, t_at_r7⟩, e8, h⟩ := zz_b h
        dsimp only at h
        refine zVi (As := []) (rest := []) (C := RX11) (wr := [(a_t_now, .inl (cI, 1562, .inl t_now))]) [1, 2] [0] 0 ⟨hx, hb, hml, hown, hts⟩ (mX11_look l D cB cI cZ a_t a_t_now a_t_kept a_t_text a_t_passing a_t_order a_t_times t_thrown t_isKept t_length (t_at_r2 + (nI 1)) t_fault t_open t_asked t_byGun t_prizeMost t_listed t_text H.size N r6 t_at_r7 e8) (cwV 0 hts gX11_unit_X11_look rfl rfl rfl (by decide +kernel) ⟨Nat.le_of_ble_eq_true rfl, Nat.le_of_ble_eq_true rfl⟩) hK hN hZ hP hD hS hA rfl rfl rfl rfl rfl rfl rfl rfl hl.1 rfl (lv_room (Nat.le_of_ble_eq_true rfl)) dX11_unit_143 ⟨Nat.le_of_ble_eq_true rfl, Nat.le_of_ble_eq_true rfl⟩ (fun H locs hP hD hS => ?_)
        have hP : va_P D vwCl [(a_t_now, .inl (cI, 1562, .inl t_now)), (a_t, .inr (11, [.int t_thrown, .ref a_t_now, .ref a_t_kept, .int t_isKept, .ref a_t_text, .int t_length, .ref a_t_passing, .int t_at_r7, .int t_fault, .int t_open, .int t_asked, .int t_byGun, .int t_prizeMost, .ref a_t_order, .ref a_t_times, .int t_listed])), (a_t_text, .inl (cB, 200, .inl t_text))] H := hP
        have hD : va_D A [(a_t_now, .inl (cI, 1562, .inl t_now)), (a_t, .inr (11, [.int t_thrown, .ref a_t_now, .ref a_t_kept, .int t_isKept, .ref a_t_text, .int t_length, .ref a_t_passing, .int t_at_r7, .int t_fault, .int t_open, .int t_asked, .int t_byGun, .int t_prizeMost, .ref a_t_order, .ref a_t_times, .int t_listed])), (a_t_text, .inl (cB, 200, .inl t_text))] := hD
        refine lv_istore_n (lv' := [(3, .int r6), (2, .int s0_j120), (1, .int r1), (0, .ref a_t)]) hx hb dX11_unit_146 rfl hl (by decide) rfl (fun ls hl => ?_)
        refine lv_iload_n hx hb dX11_unit_147 rfl (lv_at hl 0 rfl) ?_
        refine lv_bipush (v := (nI 61)) hx hb dX11_unit_148 rfl ?_
        have J171 : ∀ (H : Heap) (locs : List Loc) (ls : Array Slot), fX11_unit_J171 N t_length t_fault t_open t_asked t_now t_text s0_j120 r6 t_at_r7 = some (b0, t_at', t_fault', t_open') → va_P D vwCl [(a_t_now, .inl (cI, 1562, .inl t_now)), (a_t, .inr (11, [.int t_thrown, .ref a_t_now, .ref a_t_kept, .int t_isKept, .ref a_t_text, .int t_length, .ref a_t_passing, .int t_at_r7, .int t_fault, .int t_open, .int t_asked, .int t_byGun, .int t_prizeMost, .ref a_t_order, .ref a_t_times, .int t_listed])), (a_t_text, .inl (cB, 200, .inl t_text))] H → va_D A [(a_t_now, .inl (cI, 1562, .inl t_now)), (a_t, .inr (11, [.int t_thrown, .ref a_t_now, .ref a_t_kept, .int t_isKept, .ref a_t_text, .int t_length, .ref a_t_passing, .int t_at_r7, .int t_fault, .int t_open, .int t_asked, .int t_byGun, .int t_prizeMost, .ref a_t_order, .ref a_t_times, .int t_listed])), (a_t_text, .inl (cB, 200, .inl t_text))] → va_S A s.heap H locs → lv_has ls 6 [(3, .int r6), (2, .int s0_j120), (1, .int r1), (0, .ref a_t)] → W p l e (headSpec wsX11_unit ({ frames := 8, cells := 0, slots := 0, locals := 180 } : Room)).room s m #[Value.ref a_t] below meth c H locs 0 0 (MQ below (zQi (zb b0) D (zT cB cI cZ) [(a_t, .inr (11, [.int t_thrown, .ref a_t_now, .ref a_t_kept, .int t_isKept, .ref a_t_text, .int t_length, .ref a_t_passing, .int t_at', .int t_fault', .int t_open', .int t_asked, .int t_byGun, .int t_prizeMost, .ref a_t_order, .ref a_t_times, .int t_listed])), (a_t_now, .inl (cI, 1562, .inl t_now)), (a_t_text, .inl (cB, 200, .inl t_text))] A) #[Value.ref a_t] s 0 0 A) (F0 m 171 ls []) := by
          intro  H locs ls h hP hD hS hl
          unfold fX11_unit_J171 at h
          refine lv_aload_n hx hb dX11_unit_171 rfl (lv_at hl 3 rfl) ?_
          refine lv_dup hx hb dX11_unit_172 rfl ?_
          refine va_get (D := D) (ci := 11) (C := RX11) (T := TX11) (N := 16) hx hb hts qX11_unit_X11 hown hK hP 1 rfl rfl 7 (by decide) (hts _ kX11_unit_0) (fun _ h9 => h9) rfl dX11_unit_173 ?_
          refine lv_iconst (v := (nI 1)) hx hb dX11_unit_176 rfl ?_
          refine lv_iadd hx hb dX11_unit_177 ?_
          refine va_put (D := D) (ci := 11) (ty := .int) (C := RX11) (T := TX11) (N := 16) hx hb hts qX11_unit_X11 tyX11 tyX11_ok nmX11 hown hK hP hD hS 1 rfl rfl 7 (by decide) (hts _ kX11_unit_0) (fun _ h9 => h9) rfl (by decide +kernel) rfl (by first | rfl | exact zz_fit) (Nat.le_of_ble_eq_true rfl) dX11_unit_178 (fun H locs hP hD hS => ?_)
          have hP : va_P D vwCl [(a_t_now, .inl (cI, 1562, .inl t_now)), (a_t, .inr (11, [.int t_thrown, .ref a_t_now, .ref a_t_kept, .int t_isKept, .ref a_t_text, .int t_length, .ref a_t_passing, .int (t_at_r7 + (nI 1)), .int t_fault, .int t_open, .int t_asked, .int t_byGun, .int t_prizeMost, .ref a_t_order, .ref a_t_times, .int t_listed])), (a_t_text, .inl (cB, 200, .inl t_text))] H := hP
          have hD : va_D A [(a_t_now, .inl (cI, 1562, .inl t_now)), (a_t, .inr (11, [.int t_thrown, .ref a_t_now, .ref a_t_kept, .int t_isKept, .ref a_t_text, .int t_length, .ref a_t_passing, .int (t_at_r7 + (nI 1)), .int t_fault, .int t_open, .int t_asked, .int t_byGun, .int t_prizeMost, .ref a_t_order, .ref a_t_times, .int t_listed])), (a_t_text, .inl (cB, 200, .inl t_text))] := hD
          refine lv_aload_n hx hb dX11_unit_181 rfl (lv_at hl 3 rfl) ?_
          obtain ⟨⟨r9, t_at_r10, t_fault_r11⟩, e12, h⟩ := zz_b h
          dsimp only at h
          refine zVi (As := []) (rest := []) (C := RX11) (wr := [(a_t_now, .inl (cI, 1562, .inl t_now))]) [1, 2] [0] 0 ⟨hx, hb, hml, hown, hts⟩ (mX11_number l D cB cI cZ a_t a_t_now a_t_kept a_t_text a_t_passing a_t_order a_t_times t_thrown t_isKept t_length (t_at_r7 + (nI 1)) t_fault t_open t_asked t_byGun t_prizeMost t_listed t_text H.size N r9 t_at_r10 t_fault_r11 e12) (cwV 0 hts gX11_unit_X11_number rfl rfl rfl (by decide +kernel) ⟨Nat.le_of_ble_eq_true rfl, Nat.le_of_ble_eq_true rfl⟩) hK hN hZ hP hD hS hA rfl rfl rfl rfl rfl rfl rfl rfl hl.1 rfl (lv_room (Nat.le_of_ble_eq_true rfl)) dX11_unit_182 ⟨Nat.le_of_ble_eq_true rfl, Nat.le_of_ble_eq_true rfl⟩ (fun H locs hP hD hS => ?_)
          have hP : va_P D vwCl [(a_t_now, .inl (cI, 1562, .inl t_now)), (a_t, .inr (11, [.int t_thrown, .ref a_t_now, .ref a_t_kept, .int t_isKept, .ref a_t_text, .int t_length, .ref a_t_passing, .int t_at_r10, .int t_fault_r11, .int t_open, .int t_asked, .int t_byGun, .int t_prizeMost, .ref a_t_order, .ref a_t_times, .int t_listed])), (a_t_text, .inl (cB, 200, .inl t_text))] H := hP
          have hD : va_D A [(a_t_now, .inl (cI, 1562, .inl t_now)), (a_t, .inr (11, [.int t_thrown, .ref a_t_now, .ref a_t_kept, .int t_isKept, .ref a_t_text, .int t_length, .ref a_t_passing, .int t_at_r10, .int t_fault_r11, .int t_open, .int t_asked, .int t_byGun, .int t_prizeMost, .ref a_t_order, .ref a_t_times, .int t_listed])), (a_t_text, .inl (cB, 200, .inl t_text))] := hD
          refine lv_istore (lv' := [(4, .int r9), (3, .int r6), (2, .int s0_j120), (1, .int r1), (0, .ref a_t)]) hx hb dX11_unit_185 hl (by decide) rfl (fun ls hl => ?_)
          refine lv_aload_n hx hb dX11_unit_187 rfl (lv_at hl 4 rfl) ?_
          refine va_get (D := D) (ci := 11) (C := RX11) (T := TX11) (N := 16) hx hb hts qX11_unit_X11 hown hK hP 1 rfl rfl 10 (by decide) (hts _ kX11_unit_2) (fun _ h9 => h9) rfl dX11_unit_188 ?_
          refine lv_iconst (v := (-1 : Int32)) hx hb dX11_unit_191 rfl ?_
          refine lv_icmp_ne (tgt := 199) hx hb dX11_unit_192 (by decide) (fun c13 => ?_) (fun c13 => ?_)
          · have h := zz_f h c13
            refine lv_aload_n hx hb dX11_unit_199 rfl (lv_at hl 4 rfl) ?_
            refine lv_aload_n hx hb dX11_unit_200 rfl (lv_at hl 4 rfl) ?_
            refine va_get (D := D) (ci := 11) (C := RX11) (T := TX11) (N := 16) hx hb hts qX11_unit_X11 hown hK hP 1 rfl rfl 10 (by decide) (hts _ kX11_unit_2) (fun _ h9 => h9) rfl dX11_unit_201 ?_
            refine lv_iload_n hx hb dX11_unit_204 rfl (lv_at hl 2 rfl) ?_
            obtain ⟨r14, e15, h⟩ := zz_b h
            refine zVi (As := [.int t_asked, .int s0_j120]) (rest := []) (C := RX11) (wr := [(a_t_text, .inl (cB, 200, .inl t_text))]) [1, 0] [2] 0 ⟨hx, hb, hml, hown, hts⟩ (mX11_of l D cB cI cZ a_t a_t_now a_t_kept a_t_text a_t_passing a_t_order a_t_times t_thrown t_isKept t_length t_at_r10 t_fault_r11 t_open t_asked t_byGun t_prizeMost t_listed t_now H.size t_asked s0_j120 r14 e15) (cwV 2 hts gX11_unit_X11_of rfl rfl rfl (by decide +kernel) ⟨Nat.le_of_ble_eq_true rfl, Nat.le_of_ble_eq_true rfl⟩) hK hN hZ hP hD hS hA rfl rfl rfl rfl rfl rfl rfl rfl hl.1 rfl (lv_room (Nat.le_of_ble_eq_true rfl)) dX11_unit_205 ⟨Nat.le_of_ble_eq_true rfl, Nat.le_of_ble_eq_true rfl⟩ (fun H locs hP hD hS => ?_)
            have hP : va_P D vwCl [(a_t_text, .inl (cB, 200, .inl t_text)), (a_t, .inr (11, [.int t_thrown, .ref a_t_now, .ref a_t_kept, .int t_isKept, .ref a_t_text, .int t_length, .ref a_t_passing, .int t_at_r10, .int t_fault_r11, .int t_open, .int t_asked, .int t_byGun, .int t_prizeMost, .ref a_t_order, .ref a_t_times, .int t_listed])), (a_t_now, .inl (cI, 1562, .inl t_now))] H := hP
            have hD : va_D A [(a_t_text, .inl (cB, 200, .inl t_text)), (a_t, .inr (11, [.int t_thrown, .ref a_t_now, .ref a_t_kept, .int t_isKept, .ref a_t_text, .int t_length, .ref a_t_passing, .int t_at_r10, .int t_fault_r11, .int t_open, .int t_asked, .int t_byGun, .int t_prizeMost, .ref a_t_order, .ref a_t_times, .int t_listed])), (a_t_now, .inl (cI, 1562, .inl t_now))] := hD
            refine lv_istore (lv' := [(5, .int r14), (4, .int r9), (3, .int r6), (2, .int s0_j120), (1, .int r1), (0, .ref a_t)]) hx hb dX11_unit_208 hl (by decide) rfl (fun ls hl => ?_)
            refine lv_iload_n hx hb dX11_unit_210 rfl (lv_at hl 2 rfl) ?_
            refine lv_bipush (v := (nI 61)) hx hb dX11_unit_211 rfl ?_
            refine lv_icmp_ne (tgt := 231) hx hb dX11_unit_213 (by decide) (fun c16 => ?_) (fun c16 => ?_)
            · have h := zz_f h c16
              refine lv_iload_n hx hb dX11_unit_231 rfl (lv_at hl 2 rfl) ?_
              refine lv_bipush (v := (nI 60)) hx hb dX11_unit_232 rfl ?_
              refine lv_icmp_ne (tgt := 252) hx hb dX11_unit_234 (by decide) (fun c17 => ?_) (fun c17 => ?_)
              · have h := zz_f h c17
                refine lv_iload hx hb dX11_unit_252 (lv_at hl 0 rfl) ?_
                refine lv_iload hx hb dX11_unit_254 (lv_at hl 1 rfl) ?_
                refine lv_icmp_le (tgt := 263) hx hb dX11_unit_256 (by decide) (fun c18 => ?_) (fun c18 => ?_)
                · have h := zz_t h c18
                  refine lv_iconst (v := (nI 0)) hx hb dX11_unit_263 rfl ?_
                  obtain ⟨j0_, g_⟩ := Prod.mk.inj (Option.some.inj h)
                  obtain ⟨j1_, g_⟩ := Prod.mk.inj g_
                  obtain ⟨j2_, g_⟩ := Prod.mk.inj g_
                  have j3_ := g_
                  subst j0_
                  subst j1_
                  subst j2_
                  subst j3_
                  exact W.zret (v := (nI 0)) hx hb hr rfl (fun t ht hW => ⟨⟨_, (), rfl, rfl, zPost.of hP hD hK ht hW [1, 2, 0] rfl rfl rfl⟩, hS.F ht⟩) hS.2.2 dX11_unit_264
                · have h := zz_f h c18
                  refine lv_iconst (v := (nI 1)) hx hb dX11_unit_259 rfl ?_
                  refine lv_goto (tgt := 264) hx hb dX11_unit_260 (by decide) ?_
                  obtain ⟨j0_, g_⟩ := Prod.mk.inj (Option.some.inj h)
                  obtain ⟨j1_, g_⟩ := Prod.mk.inj g_
                  obtain ⟨j2_, g_⟩ := Prod.mk.inj g_
                  have j3_ := g_
                  subst j0_
                  subst j1_
                  subst j2_
                  subst j3_
                  exact W.zret (v := (nI 1)) hx hb hr rfl (fun t ht hW => ⟨⟨_, (), rfl, rfl, zPost.of hP hD hK ht hW [1, 2, 0] rfl rfl rfl⟩, hS.F ht⟩) hS.2.2 dX11_unit_264
              · have h := zz_t h c17
                refine lv_iload hx hb dX11_unit_237 (lv_at hl 0 rfl) ?_
                refine lv_iload hx hb dX11_unit_239 (lv_at hl 1 rfl) ?_
                refine lv_icmp_ge (tgt := 248) hx hb dX11_unit_241 (by decide) (fun c19 => ?_) (fun c19 => ?_)
                · have h := zz_t h c19
                  refine lv_iconst (v := (nI 0)) hx hb dX11_unit_248 rfl ?_
                  refine lv_goto (tgt := 264) hx hb dX11_unit_249 (by decide) ?_
                  obtain ⟨j0_, g_⟩ := Prod.mk.inj (Option.some.inj h)
                  obtain ⟨j1_, g_⟩ := Prod.mk.inj g_
                  obtain ⟨j2_, g_⟩ := Prod.mk.inj g_
                  have j3_ := g_
                  subst j0_
                  subst j1_
                  subst j2_
                  subst j3_
                  exact W.zret (v := (nI 0)) hx hb hr rfl (fun t ht hW => ⟨⟨_, (), rfl, rfl, zPost.of hP hD hK ht hW [1, 2, 0] rfl rfl rfl⟩, hS.F ht⟩) hS.2.2 dX11_unit_264
                · have h := zz_f h c19
                  refine lv_iconst (v := (nI 1)) hx hb dX11_unit_244 rfl ?_
                  refine lv_goto (tgt := 264) hx hb dX11_unit_245 (by decide) ?_
                  obtain ⟨j0_, g_⟩ := Prod.mk.inj (Option.some.inj h)
                  obtain ⟨j1_, g_⟩ := Prod.mk.inj g_
                  obtain ⟨j2_, g_⟩ := Prod.mk.inj g_
                  have j3_ := g_
                  subst j0_
                  subst j1_
                  subst j2_
                  subst j3_
                  exact W.zret (v := (nI 1)) hx hb hr rfl (fun t ht hW => ⟨⟨_, (), rfl, rfl, zPost.of hP hD hK ht hW [1, 2, 0] rfl rfl rfl⟩, hS.F ht⟩) hS.2.2 dX11_unit_264
            · have h := zz_t h c16
              refine lv_iload hx hb dX11_unit_216 (lv_at hl 0 rfl) ?_
              refine lv_iload hx hb dX11_unit_218 (lv_at hl 1 rfl) ?_
              refine lv_icmp_ne (tgt := 227) hx hb dX11_unit_220 (by decide) (fun c20 => ?_) (fun c20 => ?_)
              · have h := zz_f h c20
                refine lv_iconst (v := (nI 0)) hx hb dX11_unit_227 rfl ?_
                refine lv_goto (tgt := 264) hx hb dX11_unit_228 (by decide) ?_
                obtain ⟨j0_, g_⟩ := Prod.mk.inj (Option.some.inj h)
                obtain ⟨j1_, g_⟩ := Prod.mk.inj g_
                obtain ⟨j2_, g_⟩ := Prod.mk.inj g_
                have j3_ := g_
                subst j0_
                subst j1_
                subst j2_
                subst j3_
                exact W.zret (v := (nI 0)) hx hb hr rfl (fun t ht hW => ⟨⟨_, (), rfl, rfl, zPost.of hP hD hK ht hW [1, 2, 0] rfl rfl rfl⟩, hS.F ht⟩) hS.2.2 dX11_unit_264
              · have h := zz_t h c20
                refine lv_iconst (v := (nI 1)) hx hb dX11_unit_223 rfl ?_
                refine lv_goto (tgt := 264) hx hb dX11_unit_224 (by decide) ?_
                obtain ⟨j0_, g_⟩ := Prod.mk.inj (Option.some.inj h)
                obtain ⟨j1_, g_⟩ := Prod.mk.inj g_
                obtain ⟨j2_, g_⟩ := Prod.mk.inj g_
                have j3_ := g_
                subst j0_
                subst j1_
                subst j2_
                subst j3_
                exact W.zret (v := (nI 1)) hx hb hr rfl (fun t ht hW => ⟨⟨_, (), rfl, rfl, zPost.of hP hD hK ht hW [1, 2, 0] rfl rfl rfl⟩, hS.F ht⟩) hS.2.2 dX11_unit_264
          · have h := zz_t h c13
            refine lv_iconst (v := (nI 0)) hx hb dX11_unit_195 rfl ?_
            refine lv_goto (tgt := 208) hx hb dX11_unit_196 (by decide) ?_
            refine lv_istore (lv' := [(5, .int (nI 0)), (4, .int r9), (3, .int r6), (2, .int s0_j120), (1, .int r1), (0, .ref a_t)]) hx hb dX11_unit_208 hl (by decide) rfl (fun ls hl => ?_)
            refine lv_iload_n hx hb dX11_unit_210 rfl (lv_at hl 2 rfl) ?_
            refine lv_bipush (v := (nI 61)) hx hb dX11_unit_211 rfl ?_
            refine lv_icmp_ne (tgt := 231) hx hb dX11_unit_213 (by decide) (fun c21 => ?_) (fun c21 => ?_)
            · have h := zz_f h c21
              refine lv_iload_n hx hb dX11_unit_231 rfl (lv_at hl 2 rfl) ?_
              refine lv_bipush (v := (nI 60)) hx hb dX11_unit_232 rfl ?_
              refine lv_icmp_ne (tgt := 252) hx hb dX11_unit_234 (by decide) (fun c22 => ?_) (fun c22 => ?_)
              · have h := zz_f h c22
                refine lv_iload hx hb dX11_unit_252 (lv_at hl 0 rfl) ?_
                refine lv_iload hx hb dX11_unit_254 (lv_at hl 1 rfl) ?_
                refine lv_icmp_le (tgt := 263) hx hb dX11_unit_256 (by decide) (fun c23 => ?_) (fun c23 => ?_)
                · have h := zz_t h c23
                  refine lv_iconst (v := (nI 0)) hx hb dX11_unit_263 rfl ?_
                  obtain ⟨j0_, g_⟩ := Prod.mk.inj (Option.some.inj h)
                  obtain ⟨j1_, g_⟩ := Prod.mk.inj g_
                  obtain ⟨j2_, g_⟩ := Prod.mk.inj g_
                  have j3_ := g_
                  subst j0_
                  subst j1_
                  subst j2_
                  subst j3_
                  exact W.zret (v := (nI 0)) hx hb hr rfl (fun t ht hW => ⟨⟨_, (), rfl, rfl, zPost.of hP hD hK ht hW [1, 0, 2] rfl rfl rfl⟩, hS.F ht⟩) hS.2.2 dX11_unit_264
                · have h := zz_f h c23
                  refine lv_iconst (v := (nI 1)) hx hb dX11_unit_259 rfl ?_
                  refine lv_goto (tgt := 264) hx hb dX11_unit_260 (by decide) ?_
                  obtain ⟨j0_, g_⟩ := Prod.mk.inj (Option.some.inj h)
                  obtain ⟨j1_, g_⟩ := Prod.mk.inj g_
                  obtain ⟨j2_, g_⟩ := Prod.mk.inj g_
                  have j3_ := g_
                  subst j0_
                  subst j1_
                  subst j2_
                  subst j3_
                  exact W.zret (v := (nI 1)) hx hb hr rfl (fun t ht hW => ⟨⟨_, (), rfl, rfl, zPost.of hP hD hK ht hW [1, 0, 2] rfl rfl rfl⟩, hS.F ht⟩) hS.2.2 dX11_unit_264
              · have h := zz_t h c22
                refine lv_iload hx hb dX11_unit_237 (lv_at hl 0 rfl) ?_
                refine lv_iload hx hb dX11_unit_239 (lv_at hl 1 rfl) ?_
                refine lv_icmp_ge (tgt := 248) hx hb dX11_unit_241 (by decide) (fun c24 => ?_) (fun c24 => ?_)
                · have h := zz_t h c24
                  refine lv_iconst (v := (nI 0)) hx hb dX11_unit_248 rfl ?_
                  refine lv_goto (tgt := 264) hx hb dX11_unit_249 (by decide) ?_
                  obtain ⟨j0_, g_⟩ := Prod.mk.inj (Option.some.inj h)
                  obtain ⟨j1_, g_⟩ := Prod.mk.inj g_
                  obtain ⟨j2_, g_⟩ := Prod.mk.inj g_
                  have j3_ := g_
                  subst j0_
                  subst j1_
                  subst j2_
                  subst j3_
                  exact W.zret (v := (nI 0)) hx hb hr rfl (fun t ht hW => ⟨⟨_, (), rfl, rfl, zPost.of hP hD hK ht hW [1, 0, 2] rfl rfl rfl⟩, hS.F ht⟩) hS.2.2 dX11_unit_264
                · have h := zz_f h c24
                  refine lv_iconst (v := (nI 1)) hx hb dX11_unit_244 rfl ?_
                  refine lv_goto (tgt := 264) hx hb dX11_unit_245 (by decide) ?_
                  obtain ⟨j0_, g_⟩ := Prod.mk.inj (Option.some.inj h)
                  obtain ⟨j1_, g_⟩ := Prod.mk.inj g_
                  obtain ⟨j2_, g_⟩ := Prod.mk.inj g_
                  have j3_ := g_
                  subst j0_
                  subst j1_
                  subst j2_
                  subst j3_
                  exact W.zret (v := (nI 1)) hx hb hr rfl (fun t ht hW => ⟨⟨_, (), rfl, rfl, zPost.of hP hD hK ht hW [1, 0, 2] rfl rfl rfl⟩, hS.F ht⟩) hS.2.2 dX11_unit_264
            · have h := zz_t h c21
              refine lv_iload hx hb dX11_unit_216 (lv_at hl 0 rfl) ?_
              refine lv_iload hx hb dX11_unit_218 (lv_at hl 1 rfl) ?_
              refine lv_icmp_ne (tgt := 227) hx hb dX11_unit_220 (by decide) (fun c25 => ?_) (fun c25 => ?_)
              · have h := zz_f h c25
                refine lv_iconst (v := (nI 0)) hx hb dX11_unit_227 rfl ?_
                refine lv_goto (tgt := 264) hx hb dX11_unit_228 (by decide) ?_
                obtain ⟨j0_, g_⟩ := Prod.mk.inj (Option.some.inj h)
                obtain ⟨j1_, g_⟩ := Prod.mk.inj g_
                obtain ⟨j2_, g_⟩ := Prod.mk.inj g_
                have j3_ := g_
                subst j0_
                subst j1_
                subst j2_
                subst j3_
                exact W.zret (v := (nI 0)) hx hb hr rfl (fun t ht hW => ⟨⟨_, (), rfl, rfl, zPost.of hP hD hK ht hW [1, 0, 2] rfl rfl rfl⟩, hS.F ht⟩) hS.2.2 dX11_unit_264
              · have h := zz_t h c25
                refine lv_iconst (v := (nI 1)) hx hb dX11_unit_223 rfl ?_
                refine lv_goto (tgt := 264) hx hb dX11_unit_224 (by decide) ?_
                obtain ⟨j0_, g_⟩ := Prod.mk.inj (Option.some.inj h)
                obtain ⟨j1_, g_⟩ := Prod.mk.inj g_
                obtain ⟨j2_, g_⟩ := Prod.mk.inj g_
                have j3_ := g_
                subst j0_
                subst j1_
                subst j2_
                subst j3_
                exact W.zret (v := (nI 1)) hx hb hr rfl (fun t ht hW => ⟨⟨_, (), rfl, rfl, zPost.of hP hD hK ht hW [1, 0, 2] rfl rfl rfl⟩, hS.F ht⟩) hS.2.2 dX11_unit_264
        refine lv_icmp_eq (tgt := 171) hx hb dX11_unit_150 (by decide) (fun c26 => ?_) (fun c26 => ?_)
        · have h := zz_t h c26
          exact J171  _ _ _ h (hP.sub [0, 1, 2] rfl) (hD.sub [0, 1, 2] rfl rfl) hS (lv_sub hl [0, 1, 2, 3] rfl)
        · have h := zz_f h c26
          refine lv_iload_n hx hb dX11_unit_153 rfl (lv_at hl 0 rfl) ?_
          refine lv_bipush (v := (nI 60)) hx hb dX11_unit_154 rfl ?_
          refine lv_icmp_eq (tgt := 171) hx hb dX11_unit_156 (by decide) (fun c27 => ?_) (fun c27 => ?_)
          · have h := zz_t h c27
            exact J171  _ _ _ h (hP.sub [0, 1, 2] rfl) (hD.sub [0, 1, 2] rfl rfl) hS (lv_sub hl [0, 1, 2, 3] rfl)
          · have h := zz_f h c27
            refine lv_iload_n hx hb dX11_unit_159 rfl (lv_at hl 0 rfl) ?_
            refine lv_bipush (v := (nI 62)) hx hb dX11_unit_160 rfl ?_
            refine lv_icmp_eq (tgt := 171) hx hb dX11_unit_162 (by decide) (fun c28 => ?_) (fun c28 => ?_)
            · have h := zz_t h c28
              exact J171  _ _ _ h (hP.sub [0, 1, 2] rfl) (hD.sub [0, 1, 2] rfl rfl) hS (lv_sub hl [0, 1, 2, 3] rfl)
            · have h := zz_f h c28
              refine lv_aload_n hx hb dX11_unit_165 rfl (lv_at hl 3 rfl) ?_
              obtain ⟨t_fault_r29, e30, h⟩ := zz_b h
              refine zVv (As := []) (rest := []) (C := RX11) (wr := [(a_t_now, .inl (cI, 1562, .inl t_now)), (a_t_text, .inl (cB, 200, .inl t_text))]) [1] [0, 2] 0 ⟨hx, hb, hml, hown, hts⟩ (mX11_wrong l D cB cI cZ a_t a_t_now a_t_kept a_t_text a_t_passing a_t_order a_t_times t_thrown t_isKept t_length t_at_r7 t_fault t_open t_asked t_byGun t_prizeMost t_listed H.size t_fault_r29 e30) (cwV 0 hts gX11_unit_X11_wrong rfl rfl rfl (by decide +kernel) ⟨Nat.le_of_ble_eq_true rfl, Nat.le_of_ble_eq_true rfl⟩) hK hN hZ hP hD hS hA rfl rfl rfl rfl rfl rfl rfl rfl hl.1 rfl (lv_room (Nat.le_of_ble_eq_true rfl)) dX11_unit_166 ⟨Nat.le_of_ble_eq_true rfl, Nat.le_of_ble_eq_true rfl⟩ (fun H locs hP hD hS => ?_)
              have hP : va_P D vwCl [(a_t_now, .inl (cI, 1562, .inl t_now)), (a_t_text, .inl (cB, 200, .inl t_text)), (a_t, .inr (11, [.int t_thrown, .ref a_t_now, .ref a_t_kept, .int t_isKept, .ref a_t_text, .int t_length, .ref a_t_passing, .int t_at_r7, .int t_fault_r29, .int t_open, .int t_asked, .int t_byGun, .int t_prizeMost, .ref a_t_order, .ref a_t_times, .int t_listed]))] H := hP
              have hD : va_D A [(a_t_now, .inl (cI, 1562, .inl t_now)), (a_t_text, .inl (cB, 200, .inl t_text)), (a_t, .inr (11, [.int t_thrown, .ref a_t_now, .ref a_t_kept, .int t_isKept, .ref a_t_text, .int t_length, .ref a_t_passing, .int t_at_r7, .int t_fault_r29, .int t_open, .int t_asked, .int t_byGun, .int t_prizeMost, .ref a_t_order, .ref a_t_times, .int t_listed]))] := hD
              refine lv_iconst (v := (nI 0)) hx hb dX11_unit_169 rfl ?_
              obtain ⟨j0_, g_⟩ := Prod.mk.inj (Option.some.inj h)
              obtain ⟨j1_, g_⟩ := Prod.mk.inj g_
              obtain ⟨j2_, g_⟩ := Prod.mk.inj g_
              have j3_ := g_
              subst j0_
              subst j1_
              subst j2_
              subst j3_
              exact W.zret (v := (nI 0)) hx hb hr rfl (fun t ht hW => ⟨⟨_, (), rfl, rfl, zPost.of hP hD hK ht hW [2, 0, 1] rfl rfl rfl⟩, hS.F ht⟩) hS.2.2 dX11_unit_170
      · have h := zz_t h c5
        refine lv_aload_n hx hb dX11_unit_126 rfl (lv_at hl 2 rfl) ?_
        obtain ⟨t_fault_r31, e32, h⟩ := zz_b h
        refine zVv (As := []) (rest := []) (C := RX11) (wr := [(a_t_now, .inl (cI, 1562, .inl t_now)), (a_t_text, .inl (cB, 200, .inl t_text))]) [1] [0, 2] 0 ⟨hx, hb, hml, hown, hts⟩ (mX11_wrong l D cB cI cZ a_t a_t_now a_t_kept a_t_text a_t_passing a_t_order a_t_times t_thrown t_isKept t_length t_at_r2 t_fault t_open t_asked t_byGun t_prizeMost t_listed H.size t_fault_r31 e32) (cwV 0 hts gX11_unit_X11_wrong rfl rfl rfl (by decide +kernel) ⟨Nat.le_of_ble_eq_true rfl, Nat.le_of_ble_eq_true rfl⟩) hK hN hZ hP hD hS hA rfl rfl rfl rfl rfl rfl rfl rfl hl.1 rfl (lv_room (Nat.le_of_ble_eq_true rfl)) dX11_unit_127 ⟨Nat.le_of_ble_eq_true rfl, Nat.le_of_ble_eq_true rfl⟩ (fun H locs hP hD hS => ?_)
        have hP : va_P D vwCl [(a_t_now, .inl (cI, 1562, .inl t_now)), (a_t_text, .inl (cB, 200, .inl t_text)), (a_t, .inr (11, [.int t_thrown, .ref a_t_now, .ref a_t_kept, .int t_isKept, .ref a_t_text, .int t_length, .ref a_t_passing, .int t_at_r2, .int t_fault_r31, .int t_open, .int t_asked, .int t_byGun, .int t_prizeMost, .ref a_t_order, .ref a_t_times, .int t_listed]))] H := hP
        have hD : va_D A [(a_t_now, .inl (cI, 1562, .inl t_now)), (a_t_text, .inl (cB, 200, .inl t_text)), (a_t, .inr (11, [.int t_thrown, .ref a_t_now, .ref a_t_kept, .int t_isKept, .ref a_t_text, .int t_length, .ref a_t_passing, .int t_at_r2, .int t_fault_r31, .int t_open, .int t_asked, .int t_byGun, .int t_prizeMost, .ref a_t_order, .ref a_t_times, .int t_listed]))] := hD
        refine lv_iconst (v := (nI 0)) hx hb dX11_unit_130 rfl ?_
        obtain ⟨j0_, g_⟩ := Prod.mk.inj (Option.some.inj h)
        obtain ⟨j1_, g_⟩ := Prod.mk.inj g_
        obtain ⟨j2_, g_⟩ := Prod.mk.inj g_
        have j3_ := g_
        subst j0_
        subst j1_
        subst j2_
        subst j3_
        exact W.zret (v := (nI 0)) hx hb hr rfl (fun t ht hW => ⟨⟨_, (), rfl, rfl, zPost.of hP hD hK ht hW [2, 0, 1] rfl rfl rfl⟩, hS.F ht⟩) hS.2.2 dX11_unit_131
    refine lv_icmp_ne (tgt := 79) hx hb dX11_unit_72 (by decide) (fun c33 => ?_) (fun c33 => ?_)
    · have h := zz_f h c33
      refine lv_iload_n hx hb dX11_unit_79 rfl (lv_at hl 0 rfl) ?_
      refine lv_bipush (v := (nI 121)) hx hb dX11_unit_80 rfl ?_
      refine lv_icmp_ne (tgt := 89) hx hb dX11_unit_82 (by decide) (fun c34 => ?_) (fun c34 => ?_)
      · have h := zz_f h c34
        refine lv_iload_n hx hb dX11_unit_89 rfl (lv_at hl 0 rfl) ?_
        refine lv_bipush (v := (nI 116)) hx hb dX11_unit_90 rfl ?_
        refine lv_icmp_ne (tgt := 99) hx hb dX11_unit_92 (by decide) (fun c35 => ?_) (fun c35 => ?_)
        · have h := zz_f h c35
          refine lv_iload_n hx hb dX11_unit_99 rfl (lv_at hl 0 rfl) ?_
          refine lv_bipush (v := (nI 112)) hx hb dX11_unit_100 rfl ?_
          refine lv_icmp_ne (tgt := 109) hx hb dX11_unit_102 (by decide) (fun c36 => ?_) (fun c36 => ?_)
          · have h := zz_f h c36
            refine lv_iload_n hx hb dX11_unit_109 rfl (lv_at hl 0 rfl) ?_
            refine lv_bipush (v := (nI 107)) hx hb dX11_unit_110 rfl ?_
            refine lv_icmp_ne (tgt := 119) hx hb dX11_unit_112 (by decide) (fun c37 => ?_) (fun c37 => ?_)
            · have h := zz_f h c37
              refine lv_iconst (v := (-1 : Int32)) hx hb dX11_unit_119 rfl ?_
              exact J120 (-1 : Int32) _ _ _ h (hP.sub [0, 1, 2] rfl) (hD.sub [0, 1, 2] rfl rfl) hS (lv_sub hl [0, 1] rfl)
            · have h := zz_t h c37
              refine lv_iconst (v := (nI 0)) hx hb dX11_unit_115 rfl ?_
              refine lv_goto (tgt := 120) hx hb dX11_unit_116 (by decide) ?_
              exact J120 (nI 0) _ _ _ h (hP.sub [0, 1, 2] rfl) (hD.sub [0, 1, 2] rfl rfl) hS (lv_sub hl [0, 1] rfl)
          · have h := zz_t h c36
            refine lv_iconst (v := (nI 5)) hx hb dX11_unit_105 rfl ?_
            refine lv_goto (tgt := 120) hx hb dX11_unit_106 (by decide) ?_
            exact J120 (nI 5) _ _ _ h (hP.sub [0, 1, 2] rfl) (hD.sub [0, 1, 2] rfl rfl) hS (lv_sub hl [0, 1] rfl)
        · have h := zz_t h c35
          refine lv_iconst (v := (nI 4)) hx hb dX11_unit_95 rfl ?_
          refine lv_goto (tgt := 120) hx hb dX11_unit_96 (by decide) ?_
          exact J120 (nI 4) _ _ _ h (hP.sub [0, 1, 2] rfl) (hD.sub [0, 1, 2] rfl rfl) hS (lv_sub hl [0, 1] rfl)
      · have h := zz_t h c34
        refine lv_iconst (v := (nI 2)) hx hb dX11_unit_85 rfl ?_
        refine lv_goto (tgt := 120) hx hb dX11_unit_86 (by decide) ?_
        exact J120 (nI 2) _ _ _ h (hP.sub [0, 1, 2] rfl) (hD.sub [0, 1, 2] rfl rfl) hS (lv_sub hl [0, 1] rfl)
    · have h := zz_t h c33
      refine lv_iconst (v := (nI 3)) hx hb dX11_unit_75 rfl ?_
      refine lv_goto (tgt := 120) hx hb dX11_unit_76 (by decide) ?_
      exact J120 (nI 3) _ _ _ h (hP.sub [0, 1, 2] rfl) (hD.sub [0, 1, 2] rfl rfl) hS (lv_sub hl [0, 1] rfl)
  · have h := zz_t h c4
    refine lv_aload_n hx hb dX11_unit_11 rfl (lv_at hl 1 rfl) ?_
    refine va_get (D := D) (ci := 11) (C := RX11) (T := TX11) (N := 16) hx hb hts qX11_unit_X11 hown hK hP 1 rfl rfl 9 (by decide) (hts _ kX11_unit_3) (fun _ h9 => h9) rfl dX11_unit_12 ?_
    refine lv_bipush (v := (nI 8)) hx hb dX11_unit_15 rfl ?_
    refine lv_icmp_ne (tgt := 26) hx hb dX11_unit_17 (by decide) (fun c38 => ?_) (fun c38 => ?_)
    · have h := zz_f h c38
      refine lv_aload_n hx hb dX11_unit_26 rfl (lv_at hl 1 rfl) ?_
      refine lv_dup hx hb dX11_unit_27 rfl ?_
      refine va_get (D := D) (ci := 11) (C := RX11) (T := TX11) (N := 16) hx hb hts qX11_unit_X11 hown hK hP 1 rfl rfl 9 (by decide) (hts _ kX11_unit_3) (fun _ h9 => h9) rfl dX11_unit_28 ?_
      refine lv_iconst (v := (nI 1)) hx hb dX11_unit_31 rfl ?_
      refine lv_iadd hx hb dX11_unit_32 ?_
      refine va_put (D := D) (ci := 11) (ty := .int) (C := RX11) (T := TX11) (N := 16) hx hb hts qX11_unit_X11 tyX11 tyX11_ok nmX11 hown hK hP hD hS 1 rfl rfl 9 (by decide) (hts _ kX11_unit_3) (fun _ h9 => h9) rfl (by decide +kernel) rfl (by first | rfl | exact zz_fit) (Nat.le_of_ble_eq_true rfl) dX11_unit_33 (fun H locs hP hD hS => ?_)
      have hP : va_P D vwCl [(a_t_now, .inl (cI, 1562, .inl t_now)), (a_t, .inr (11, [.int t_thrown, .ref a_t_now, .ref a_t_kept, .int t_isKept, .ref a_t_text, .int t_length, .ref a_t_passing, .int t_at_r2, .int t_fault, .int (t_open + (nI 1)), .int t_asked, .int t_byGun, .int t_prizeMost, .ref a_t_order, .ref a_t_times, .int t_listed])), (a_t_text, .inl (cB, 200, .inl t_text))] H := hP
      have hD : va_D A [(a_t_now, .inl (cI, 1562, .inl t_now)), (a_t, .inr (11, [.int t_thrown, .ref a_t_now, .ref a_t_kept, .int t_isKept, .ref a_t_text, .int t_length, .ref a_t_passing, .int t_at_r2, .int t_fault, .int (t_open + (nI 1)), .int t_asked, .int t_byGun, .int t_prizeMost, .ref a_t_order, .ref a_t_times, .int t_listed])), (a_t_text, .inl (cB, 200, .inl t_text))] := hD
      refine lv_aload_n hx hb dX11_unit_36 rfl (lv_at hl 1 rfl) ?_
      refine lv_dup hx hb dX11_unit_37 rfl ?_
      refine va_get (D := D) (ci := 11) (C := RX11) (T := TX11) (N := 16) hx hb hts qX11_unit_X11 hown hK hP 1 rfl rfl 7 (by decide) (hts _ kX11_unit_0) (fun _ h9 => h9) rfl dX11_unit_38 ?_
      refine lv_iconst (v := (nI 1)) hx hb dX11_unit_41 rfl ?_
      refine lv_iadd hx hb dX11_unit_42 ?_
      refine va_put (D := D) (ci := 11) (ty := .int) (C := RX11) (T := TX11) (N := 16) hx hb hts qX11_unit_X11 tyX11 tyX11_ok nmX11 hown hK hP hD hS 1 rfl rfl 7 (by decide) (hts _ kX11_unit_0) (fun _ h9 => h9) rfl (by decide +kernel) rfl (by first | rfl | exact zz_fit) (Nat.le_of_ble_eq_true rfl) dX11_unit_43 (fun H locs hP hD hS => ?_)
      have hP : va_P D vwCl [(a_t_now, .inl (cI, 1562, .inl t_now)), (a_t, .inr (11, [.int t_thrown, .ref a_t_now, .ref a_t_kept, .int t_isKept, .ref a_t_text, .int t_length, .ref a_t_passing, .int (t_at_r2 + (nI 1)), .int t_fault, .int (t_open + (nI 1)), .int t_asked, .int t_byGun, .int t_prizeMost, .ref a_t_order, .ref a_t_times, .int t_listed])), (a_t_text, .inl (cB, 200, .inl t_text))] H := hP
      have hD : va_D A [(a_t_now, .inl (cI, 1562, .inl t_now)), (a_t, .inr (11, [.int t_thrown, .ref a_t_now, .ref a_t_kept, .int t_isKept, .ref a_t_text, .int t_length, .ref a_t_passing, .int (t_at_r2 + (nI 1)), .int t_fault, .int (t_open + (nI 1)), .int t_asked, .int t_byGun, .int t_prizeMost, .ref a_t_order, .ref a_t_times, .int t_listed])), (a_t_text, .inl (cB, 200, .inl t_text))] := hD
      refine lv_aload_n hx hb dX11_unit_46 rfl (lv_at hl 1 rfl) ?_
      obtain ⟨⟨b39, t_at_r40, t_fault_r41, t_open_r42⟩, e43, h⟩ := zz_b h
      dsimp only at h
      refine zVi (As := []) (rest := []) (C := RX11) (wr := []) [1, 0, 2] [] 0 ⟨hx, hb, hml, hown, hts⟩ (mX11_tests_1 l D cB cI cZ a_t a_t_now a_t_kept a_t_text a_t_passing a_t_order a_t_times t_thrown t_isKept t_length (t_at_r2 + (nI 1)) t_fault (t_open + (nI 1)) t_asked t_byGun t_prizeMost t_listed t_now t_text H.size N b39 t_at_r40 t_fault_r41 t_open_r42 (hT ▸ e43)) (cwV 0 hts gX11_unit_X11_tests rfl rfl rfl (by decide +kernel) ⟨Nat.le_of_ble_eq_true rfl, Nat.le_of_ble_eq_true rfl⟩) hK hN hZ hP hD hS hA rfl rfl rfl rfl rfl rfl rfl rfl hl.1 rfl (lv_room (Nat.le_of_ble_eq_true rfl)) dX11_unit_47 ⟨Nat.le_of_ble_eq_true rfl, Nat.le_of_ble_eq_true rfl⟩ (fun H locs hP hD hS => ?_)
      have hP : va_P D vwCl [(a_t, .inr (11, [.int t_thrown, .ref a_t_now, .ref a_t_kept, .int t_isKept, .ref a_t_text, .int t_length, .ref a_t_passing, .int t_at_r40, .int t_fault_r41, .int t_open_r42, .int t_asked, .int t_byGun, .int t_prizeMost, .ref a_t_order, .ref a_t_times, .int t_listed])), (a_t_now, .inl (cI, 1562, .inl t_now)), (a_t_text, .inl (cB, 200, .inl t_text))] H := hP
      have hD : va_D A [(a_t, .inr (11, [.int t_thrown, .ref a_t_now, .ref a_t_kept, .int t_isKept, .ref a_t_text, .int t_length, .ref a_t_passing, .int t_at_r40, .int t_fault_r41, .int t_open_r42, .int t_asked, .int t_byGun, .int t_prizeMost, .ref a_t_order, .ref a_t_times, .int t_listed])), (a_t_now, .inl (cI, 1562, .inl t_now)), (a_t_text, .inl (cB, 200, .inl t_text))] := hD
      refine lv_istore_n (lv' := [(2, .int (zb b39)), (1, .int r1), (0, .ref a_t)]) hx hb dX11_unit_50 rfl hl (by decide) rfl (fun ls hl => ?_)
      refine lv_aload_n hx hb dX11_unit_51 rfl (lv_at hl 2 rfl) ?_
      refine lv_bipush (v := (nI 41)) hx hb dX11_unit_52 rfl ?_
      obtain ⟨⟨t_at_r44, t_fault_r45⟩, e46, h⟩ := zz_b h
      dsimp only at h
      refine zVv (As := [.int (nI 41)]) (rest := []) (C := RX11) (wr := [(a_t_now, .inl (cI, 1562, .inl t_now))]) [0, 2] [1] 0 ⟨hx, hb, hml, hown, hts⟩ (mX11_sign l D cB cI cZ a_t a_t_now a_t_kept a_t_text a_t_passing a_t_order a_t_times t_thrown t_isKept t_length t_at_r40 t_fault_r41 t_open_r42 t_asked t_byGun t_prizeMost t_listed t_text H.size (nI 41) N t_at_r44 t_fault_r45 e46) (cwV 1 hts gX11_unit_X11_sign rfl rfl rfl (by decide +kernel) ⟨Nat.le_of_ble_eq_true rfl, Nat.le_of_ble_eq_true rfl⟩) hK hN hZ hP hD hS hA rfl rfl rfl rfl rfl rfl rfl rfl hl.1 rfl (lv_room (Nat.le_of_ble_eq_true rfl)) dX11_unit_54 ⟨Nat.le_of_ble_eq_true rfl, Nat.le_of_ble_eq_true rfl⟩ (fun H locs hP hD hS => ?_)
      have hP : va_P D vwCl [(a_t_now, .inl (cI, 1562, .inl t_now)), (a_t, .inr (11, [.int t_thrown, .ref a_t_now, .ref a_t_kept, .int t_isKept, .ref a_t_text, .int t_length, .ref a_t_passing, .int t_at_r44, .int t_fault_r45, .int t_open_r42, .int t_asked, .int t_byGun, .int t_prizeMost, .ref a_t_order, .ref a_t_times, .int t_listed])), (a_t_text, .inl (cB, 200, .inl t_text))] H := hP
      have hD : va_D A [(a_t_now, .inl (cI, 1562, .inl t_now)), (a_t, .inr (11, [.int t_thrown, .ref a_t_now, .ref a_t_kept, .int t_isKept, .ref a_t_text, .int t_length, .ref a_t_passing, .int t_at_r44, .int t_fault_r45, .int t_open_r42, .int t_asked, .int t_byGun, .int t_prizeMost, .ref a_t_order, .ref a_t_times, .int t_listed])), (a_t_text, .inl (cB, 200, .inl t_text))] := hD
      refine lv_aload_n hx hb dX11_unit_57 rfl (lv_at hl 2 rfl) ?_
      refine lv_dup hx hb dX11_unit_58 rfl ?_
      refine va_get (D := D) (ci := 11) (C := RX11) (T := TX11) (N := 16) hx hb hts qX11_unit_X11 hown hK hP 1 rfl rfl 9 (by decide) (hts _ kX11_unit_3) (fun _ h9 => h9) rfl dX11_unit_59 ?_
      refine lv_iconst (v := (nI 1)) hx hb dX11_unit_62 rfl ?_
      refine lv_isub hx hb dX11_unit_63 ?_
      refine va_put (D := D) (ci := 11) (ty := .int) (C := RX11) (T := TX11) (N := 16) hx hb hts qX11_unit_X11 tyX11 tyX11_ok nmX11 hown hK hP hD hS 1 rfl rfl 9 (by decide) (hts _ kX11_unit_3) (fun _ h9 => h9) rfl (by decide +kernel) rfl (by first | rfl | exact zz_fit) (Nat.le_of_ble_eq_true rfl) dX11_unit_64 (fun H locs hP hD hS => ?_)
      have hP : va_P D vwCl [(a_t_now, .inl (cI, 1562, .inl t_now)), (a_t, .inr (11, [.int t_thrown, .ref a_t_now, .ref a_t_kept, .int t_isKept, .ref a_t_text, .int t_length, .ref a_t_passing, .int t_at_r44, .int t_fault_r45, .int (t_open_r42 - (nI 1)), .int t_asked, .int t_byGun, .int t_prizeMost, .ref a_t_order, .ref a_t_times, .int t_listed])), (a_t_text, .inl (cB, 200, .inl t_text))] H := hP
      have hD : va_D A [(a_t_now, .inl (cI, 1562, .inl t_now)), (a_t, .inr (11, [.int t_thrown, .ref a_t_now, .ref a_t_kept, .int t_isKept, .ref a_t_text, .int t_length, .ref a_t_passing, .int t_at_r44, .int t_fault_r45, .int (t_open_r42 - (nI 1)), .int t_asked, .int t_byGun, .int t_prizeMost, .ref a_t_order, .ref a_t_times, .int t_listed])), (a_t_text, .inl (cB, 200, .inl t_text))] := hD
      refine lv_iload_n hx hb dX11_unit_67 rfl (lv_at hl 0 rfl) ?_
      obtain ⟨j0_, g_⟩ := Prod.mk.inj (Option.some.inj h)
      obtain ⟨j1_, g_⟩ := Prod.mk.inj g_
      obtain ⟨j2_, g_⟩ := Prod.mk.inj g_
      have j3_ := g_
      subst j0_
      subst j1_
      subst j2_
      subst j3_
      exact W.zret (v := (zb b39)) hx hb hr zz_n (fun t ht hW => ⟨⟨_, (), rfl, rfl, zPost.of hP hD hK ht hW [1, 0, 2] rfl rfl rfl⟩, hS.F ht⟩) hS.2.2 dX11_unit_68
    · have h := zz_t h c38
      refine lv_aload_n hx hb dX11_unit_20 rfl (lv_at hl 1 rfl) ?_
      obtain ⟨t_fault_r47, e48, h⟩ := zz_b h
      refine zVv (As := []) (rest := []) (C := RX11) (wr := [(a_t_now, .inl (cI, 1562, .inl t_now)), (a_t_text, .inl (cB, 200, .inl t_text))]) [1] [0, 2] 0 ⟨hx, hb, hml, hown, hts⟩ (mX11_wrong l D cB cI cZ a_t a_t_now a_t_kept a_t_text a_t_passing a_t_order a_t_times t_thrown t_isKept t_length t_at_r2 t_fault t_open t_asked t_byGun t_prizeMost t_listed H.size t_fault_r47 e48) (cwV 0 hts gX11_unit_X11_wrong rfl rfl rfl (by decide +kernel) ⟨Nat.le_of_ble_eq_true rfl, Nat.le_of_ble_eq_true rfl⟩) hK hN hZ hP hD hS hA rfl rfl rfl rfl rfl rfl rfl rfl hl.1 rfl (lv_room (Nat.le_of_ble_eq_true rfl)) dX11_unit_21 ⟨Nat.le_of_ble_eq_true rfl, Nat.le_of_ble_eq_true rfl⟩ (fun H locs hP hD hS => ?_)
      have hP : va_P D vwCl [(a_t_now, .inl (cI, 1562, .inl t_now)), (a_t_text, .inl (cB, 200, .inl t_text)), (a_t, .inr (11, [.int t_thrown, .ref a_t_now, .ref a_t_kept, .int t_isKept, .ref a_t_text, .int t_length, .ref a_t_passing, .int t_at_r2, .int t_fault_r47, .int t_open, .int t_asked, .int t_byGun, .int t_prizeMost, .ref a_t_order, .ref a_t_times, .int t_listed]))] H := hP
      have hD : va_D A [(a_t_now, .inl (cI, 1562, .inl t_now)), (a_t_text, .inl (cB, 200, .inl t_text)), (a_t, .inr (11, [.int t_thrown, .ref a_t_now, .ref a_t_kept, .int t_isKept, .ref a_t_text, .int t_length, .ref a_t_passing, .int t_at_r2, .int t_fault_r47, .int t_open, .int t_asked, .int t_byGun, .int t_prizeMost, .ref a_t_order, .ref a_t_times, .int t_listed]))] := hD
      refine lv_iconst (v := (nI 0)) hx hb dX11_unit_24 rfl ?_
      obtain ⟨j0_, g_⟩ := Prod.mk.inj (Option.some.inj h)
      obtain ⟨j1_, g_⟩ := Prod.mk.inj g_
      obtain ⟨j2_, g_⟩ := Prod.mk.inj g_
      have j3_ := g_
      subst j0_
      subst j1_
      subst j2_
      subst j3_
      exact W.zret (v := (nI 0)) hx hb hr rfl (fun t ht hW => ⟨⟨_, (), rfl, rfl, zPost.of hP hD hK ht hW [2, 0, 1] rfl rfl rfl⟩, hS.F ht⟩) hS.2.2 dX11_unit_25
set_option maxHeartbeats 4000000 in
set_option maxRecDepth 100000 in
theorem mX11_part_2 (l : Launch) (D : va_G) (cB cI cZ : ClassId) (a_t : Nat) (a_t_now : Nat) (a_t_kept : Nat) (a_t_text : Nat) (a_t_passing : Nat) (a_t_order : Nat) (a_t_times : Nat) (t_thrown : Int32) (t_isKept : Int32) (t_length : Int32) (t_at : Int32) (t_fault : Int32) (t_open : Int32) (t_asked : Int32) (t_byGun : Int32) (t_prizeMost : Int32) (t_listed : Int32) (t_now : Nat → Int32) (t_text : Nat → Int32) (sz : Nat) (N : Nat) (T : Int32 → Int32 → Int32 → Int32 → Int32 → (Nat → Int32) → (Nat → Int32) → Option (Bool × Int32 × Int32 × Int32)) (hT : T = fX11_testsD N 2) (b0 : Bool) (t_at' : Int32) (t_fault' : Int32) (t_open' : Int32) (h : fX11_part T N t_asked t_at t_fault t_length t_open t_now t_text = some (b0, t_at', t_fault', t_open')) : Met l yX11_part wsX11_part ({ frames := 9, cells := 0, slots := 0, locals := 205 } : Room) (va_Pc [.ref a_t] (zPre D (zT cB cI cZ) [(a_t, .inr (11, [.int t_thrown, .ref a_t_now, .ref a_t_kept, .int t_isKept, .ref a_t_text, .int t_length, .ref a_t_passing, .int t_at, .int t_fault, .int t_open, .int t_asked, .int t_byGun, .int t_prizeMost, .ref a_t_order, .ref a_t_times, .int t_listed])), (a_t_now, .inl (cI, 1562, .inl t_now)), (a_t_text, .inl (cB, 200, .inl t_text))] sz)) (zQi (zb b0) D (zT cB cI cZ) [(a_t, .inr (11, [.int t_thrown, .ref a_t_now, .ref a_t_kept, .int t_isKept, .ref a_t_text, .int t_length, .ref a_t_passing, .int t_at', .int t_fault', .int t_open', .int t_asked, .int t_byGun, .int t_prizeMost, .ref a_t_order, .ref a_t_times, .int t_listed])), (a_t_now, .inl (cI, 1562, .inl t_now)), (a_t_text, .inl (cB, 200, .inl t_text))] (va_A [(a_t, .inr (11, [.int t_thrown, .ref a_t_now, .ref a_t_kept, .int t_isKept, .ref a_t_text, .int t_length, .ref a_t_passing, .int t_at, .int t_fault, .int t_open, .int t_asked, .int t_byGun, .int t_prizeMost, .ref a_t_order, .ref a_t_times, .int t_listed])), (a_t_now, .inl (cI, 1562, .inl t_now)), (a_t_text, .inl (cB, 200, .inl t_text))] sz)) 0 0 (va_A [(a_t, .inr (11, [.int t_thrown, .ref a_t_now, .ref a_t_kept, .int t_isKept, .ref a_t_text, .int t_length, .ref a_t_passing, .int t_at, .int t_fault, .int t_open, .int t_asked, .int t_byGun, .int t_prizeMost, .ref a_t_order, .ref a_t_times, .int t_listed])), (a_t_now, .inl (cI, 1562, .inl t_now)), (a_t_text, .inl (cB, 200, .inl t_text))] sz) := by
  refine Met.ofW (cc := cX11_part) (maxL := 3) (ret := (some .boolean)) (by decide) rfl ?_
  intro p e s m args below meth c s₁ B hml hv
  obtain ⟨rfl, hsz, hP, hK, hN, hZ, hD0⟩ := hv
  have hx := B.exec
  have hb := B.bytes
  have hr := B.returns
  have hts := atoms_spec (ws := wsX11_part) B.pre
  have hown : s.vm.findClass RX11 = some m.cls := findClass_of_methodNamed B.named
  have hlocks := B.notSynchronized
  subst hsz
  have hD := hD0.self (sz := s.heap.size)
  generalize hAe : va_A [(a_t, .inr (11, [.int t_thrown, .ref a_t_now, .ref a_t_kept, .int t_isKept, .ref a_t_text, .int t_length, .ref a_t_passing, .int t_at, .int t_fault, .int t_open, .int t_asked, .int t_byGun, .int t_prizeMost, .ref a_t_order, .ref a_t_times, .int t_listed])), (a_t_now, .inl (cI, 1562, .inl t_now)), (a_t_text, .inl (cB, 200, .inl t_text))] s.heap.size = A at hD hZ ⊢
  have hA : ∀ q : Nat, s.heap.size ≤ q → A q := fun q h => by rw [← hAe]; exact Or.inr h
  have hS : va_S A s.heap s.heap [] := va_S.rf
  have hl := lv_entry ([.ref a_t]) (n := 3) (Nat.le_of_ble_eq_true rfl)
  rw [lg_entry_eq]
  generalize (lg_sl ([.ref a_t]) ++ List.replicate (3 - (lg_sl ([.ref a_t])).length) Slot.unset).toArray = ls at hl ⊢
  have hl : lv_has ls 3 [(0, .ref a_t)] := hl
  unfold fX11_part at h
  refine lv_aload_n hx hb dX11_part_0 rfl (lv_at hl 0 rfl) ?_
  obtain ⟨⟨b1, t_at_r2, t_fault_r3, t_open_r4⟩, e5, h⟩ := zz_b h
  dsimp only at h
  refine zVi (As := []) (rest := []) (C := RX11) (wr := []) [0, 1, 2] [] 0 ⟨hx, hb, hml, hown, hts⟩ (mX11_unit_2 l D cB cI cZ a_t a_t_now a_t_kept a_t_text a_t_passing a_t_order a_t_times t_thrown t_isKept t_length t_at t_fault t_open t_asked t_byGun t_prizeMost t_listed t_now t_text s.heap.size N T hT b1 t_at_r2 t_fault_r3 t_open_r4 e5) (cwV 0 hts gX11_part_X11_unit rfl rfl rfl (by decide +kernel) ⟨Nat.le_of_ble_eq_true rfl, Nat.le_of_ble_eq_true rfl⟩) hK hN hZ hP hD hS hA rfl rfl rfl rfl rfl rfl rfl rfl hl.1 rfl (lv_room (Nat.le_of_ble_eq_true rfl)) dX11_part_1 ⟨Nat.le_of_ble_eq_true rfl, Nat.le_of_ble_eq_true rfl⟩ (fun H locs hP hD hS => ?_)
  have hP : va_P D vwCl [(a_t, .inr (11, [.int t_thrown, .ref a_t_now, .ref a_t_kept, .int t_isKept, .ref a_t_text, .int t_length, .ref a_t_passing, .int t_at_r2, .int t_fault_r3, .int t_open_r4, .int t_asked, .int t_byGun, .int t_prizeMost, .ref a_t_order, .ref a_t_times, .int t_listed])), (a_t_now, .inl (cI, 1562, .inl t_now)), (a_t_text, .inl (cB, 200, .inl t_text))] H := hP
  have hD : va_D A [(a_t, .inr (11, [.int t_thrown, .ref a_t_now, .ref a_t_kept, .int t_isKept, .ref a_t_text, .int t_length, .ref a_t_passing, .int t_at_r2, .int t_fault_r3, .int t_open_r4, .int t_asked, .int t_byGun, .int t_prizeMost, .ref a_t_order, .ref a_t_times, .int t_listed])), (a_t_now, .inl (cI, 1562, .inl t_now)), (a_t_text, .inl (cB, 200, .inl t_text))] := hD
  refine lv_istore_n (lv' := [(1, .int (zb b1)), (0, .ref a_t)]) hx hb dX11_part_4 rfl hl (by decide) rfl (fun ls hl => ?_)
  have X5_53 : ∀ (v1_5 : Bool) (t_at_l5 : Int32) (t_fault_l5 : Int32) (t_open_l5 : Int32) (H : Heap) (locs : List Loc) (ls : Array Slot), some (v1_5, t_at_l5, t_fault_l5, t_open_l5) = some (b0, t_at', t_fault', t_open') → va_P D vwCl [(a_t, .inr (11, [.int t_thrown, .ref a_t_now, .ref a_t_kept, .int t_isKept, .ref a_t_text, .int t_length, .ref a_t_passing, .int t_at_l5, .int t_fault_l5, .int t_open_l5, .int t_asked, .int t_byGun, .int t_prizeMost, .ref a_t_order, .ref a_t_times, .int t_listed])), (a_t_now, .inl (cI, 1562, .inl t_now)), (a_t_text, .inl (cB, 200, .inl t_text))] H → va_D A [(a_t, .inr (11, [.int t_thrown, .ref a_t_now, .ref a_t_kept, .int t_isKept, .ref a_t_text, .int t_length, .ref a_t_passing, .int t_at_l5, .int t_fault_l5, .int t_open_l5, .int t_asked, .int t_byGun, .int t_prizeMost, .ref a_t_order, .ref a_t_times, .int t_listed])), (a_t_now, .inl (cI, 1562, .inl t_now)), (a_t_text, .inl (cB, 200, .inl t_text))] → va_S A s.heap H locs → lv_has ls 3 [(1, .int (zb v1_5)), (0, .ref a_t)] → W p l e (headSpec wsX11_part ({ frames := 9, cells := 0, slots := 0, locals := 205 } : Room)).room s m #[Value.ref a_t] below meth c H locs 0 0 (MQ below (zQi (zb b0) D (zT cB cI cZ) [(a_t, .inr (11, [.int t_thrown, .ref a_t_now, .ref a_t_kept, .int t_isKept, .ref a_t_text, .int t_length, .ref a_t_passing, .int t_at', .int t_fault', .int t_open', .int t_asked, .int t_byGun, .int t_prizeMost, .ref a_t_order, .ref a_t_times, .int t_listed])), (a_t_now, .inl (cI, 1562, .inl t_now)), (a_t_text, .inl (cB, 200, .inl t_text))] A) #[Value.ref a_t] s 0 0 A) (F0 m 53 ls []) := by
    intro v1_5 t_at_l5 t_fault_l5 t_open_l5 H locs ls h hP hD hS hl
    refine lv_iload_n hx hb dX11_part_53 rfl (lv_at hl 0 rfl) ?_
    obtain ⟨j0_, g_⟩ := Prod.mk.inj (Option.some.inj h)
    obtain ⟨j1_, g_⟩ := Prod.mk.inj g_
    obtain ⟨j2_, g_⟩ := Prod.mk.inj g_
    have j3_ := g_
    subst j0_
    subst j1_
    subst j2_
    subst j3_
    exact W.zret (v := (zb v1_5)) hx hb hr zz_n (fun t ht hW => ⟨⟨_, (), rfl, rfl, zPost.of hP hD hK ht hW [0, 1, 2] rfl rfl rfl⟩, hS.F ht⟩) hS.2.2 dX11_part_54
  have L5 : ∀ (n : Nat) (v1_5 : Bool) (t_at_l5 : Int32) (t_fault_l5 : Int32) (t_open_l5 : Int32) (H : Heap) (locs : List Loc) (ls : Array Slot), fX11_part_L5 N T t_length t_asked t_now t_text (fun (v1_5 : Bool) (t_at_l5 : Int32) (t_fault_l5 : Int32) (t_open_l5 : Int32) => some (v1_5, t_at_l5, t_fault_l5, t_open_l5)) n v1_5 t_at_l5 t_fault_l5 t_open_l5 = some (b0, t_at', t_fault', t_open') → va_P D vwCl [(a_t, .inr (11, [.int t_thrown, .ref a_t_now, .ref a_t_kept, .int t_isKept, .ref a_t_text, .int t_length, .ref a_t_passing, .int t_at_l5, .int t_fault_l5, .int t_open_l5, .int t_asked, .int t_byGun, .int t_prizeMost, .ref a_t_order, .ref a_t_times, .int t_listed])), (a_t_now, .inl (cI, 1562, .inl t_now)), (a_t_text, .inl (cB, 200, .inl t_text))] H → va_D A [(a_t, .inr (11, [.int t_thrown, .ref a_t_now, .ref a_t_kept, .int t_isKept, .ref a_t_text, .int t_length, .ref a_t_passing, .int t_at_l5, .int t_fault_l5, .int t_open_l5, .int t_asked, .int t_byGun, .int t_prizeMost, .ref a_t_order, .ref a_t_times, .int t_listed])), (a_t_now, .inl (cI, 1562, .inl t_now)), (a_t_text, .inl (cB, 200, .inl t_text))] → va_S A s.heap H locs → lv_has ls 3 [(1, .int (zb v1_5)), (0, .ref a_t)] → W p l e (headSpec wsX11_part ({ frames := 9, cells := 0, slots := 0, locals := 205 } : Room)).room s m #[Value.ref a_t] below meth c H locs 0 0 (MQ below (zQi (zb b0) D (zT cB cI cZ) [(a_t, .inr (11, [.int t_thrown, .ref a_t_now, .ref a_t_kept, .int t_isKept, .ref a_t_text, .int t_length, .ref a_t_passing, .int t_at', .int t_fault', .int t_open', .int t_asked, .int t_byGun, .int t_prizeMost, .ref a_t_order, .ref a_t_times, .int t_listed])), (a_t_now, .inl (cI, 1562, .inl t_now)), (a_t_text, .inl (cB, 200, .inl t_text))] A) #[Value.ref a_t] s 0 0 A) (F0 m 5 ls []) := by
    intro n
    induction n with
    | zero => intro _ _ _ _ H locs ls h hP hD hS hl; cases h
    | succ n5 ih5 =>
      intro v1_5 t_at_l5 t_fault_l5 t_open_l5 H locs ls h hP hD hS hl
      rw [fX11_part_L5.eq_2] at h
      refine lv_aload_n hx hb dX11_part_5 rfl (lv_at hl 1 rfl) ?_
      obtain ⟨b6, e7, h⟩ := zz_b h
      refine zVi (As := []) (rest := []) (C := RX11) (wr := [(a_t_now, .inl (cI, 1562, .inl t_now)), (a_t_text, .inl (cB, 200, .inl t_text))]) [0] [1, 2] 0 ⟨hx, hb, hml, hown, hts⟩ (mX11_isFine l D cB cI cZ a_t a_t_now a_t_kept a_t_text a_t_passing a_t_order a_t_times t_thrown t_isKept t_length t_at_l5 t_fault_l5 t_open_l5 t_asked t_byGun t_prizeMost t_listed H.size b6 e7) (cwV 0 hts gX11_part_X11_isFine rfl rfl rfl (by decide +kernel) ⟨Nat.le_of_ble_eq_true rfl, Nat.le_of_ble_eq_true rfl⟩) hK hN hZ hP hD hS hA rfl rfl rfl rfl rfl rfl rfl rfl hl.1 rfl (lv_room (Nat.le_of_ble_eq_true rfl)) dX11_part_6 ⟨Nat.le_of_ble_eq_true rfl, Nat.le_of_ble_eq_true rfl⟩ (fun H locs hP hD hS => ?_)
      have hP : va_P D vwCl [(a_t_now, .inl (cI, 1562, .inl t_now)), (a_t_text, .inl (cB, 200, .inl t_text)), (a_t, .inr (11, [.int t_thrown, .ref a_t_now, .ref a_t_kept, .int t_isKept, .ref a_t_text, .int t_length, .ref a_t_passing, .int t_at_l5, .int t_fault_l5, .int t_open_l5, .int t_asked, .int t_byGun, .int t_prizeMost, .ref a_t_order, .ref a_t_times, .int t_listed]))] H := hP
      have hD : va_D A [(a_t_now, .inl (cI, 1562, .inl t_now)), (a_t_text, .inl (cB, 200, .inl t_text)), (a_t, .inr (11, [.int t_thrown, .ref a_t_now, .ref a_t_kept, .int t_isKept, .ref a_t_text, .int t_length, .ref a_t_passing, .int t_at_l5, .int t_fault_l5, .int t_open_l5, .int t_asked, .int t_byGun, .int t_prizeMost, .ref a_t_order, .ref a_t_times, .int t_listed]))] := hD
      refine lv_if_eq (tgt := 53) hx hb dX11_part_9 (by decide) (fun c8 => ?_) (fun c8 => ?_)
      · have h := zz_t h c8
        exact X5_53 v1_5 t_at_l5 t_fault_l5 t_open_l5 _ _ _ h (hP.sub [2, 0, 1] rfl) (hD.sub [2, 0, 1] rfl rfl) hS (lv_sub hl [0, 1] rfl)
      · have h := zz_f h c8
        refine lv_aload_n hx hb dX11_part_12 rfl (lv_at hl 1 rfl) ?_
        obtain ⟨⟨r9, t_at_r10⟩, e11, h⟩ := zz_b h
        dsimp only at h
        refine zVi (As := []) (rest := []) (C := RX11) (wr := [(a_t_now, .inl (cI, 1562, .inl t_now))]) [2, 1] [0] 0 ⟨hx, hb, hml, hown, hts⟩ (mX11_look l D cB cI cZ a_t a_t_now a_t_kept a_t_text a_t_passing a_t_order a_t_times t_thrown t_isKept t_length t_at_l5 t_fault_l5 t_open_l5 t_asked t_byGun t_prizeMost t_listed t_text H.size N r9 t_at_r10 e11) (cwV 0 hts gX11_part_X11_look rfl rfl rfl (by decide +kernel) ⟨Nat.le_of_ble_eq_true rfl, Nat.le_of_ble_eq_true rfl⟩) hK hN hZ hP hD hS hA rfl rfl rfl rfl rfl rfl rfl rfl hl.1 rfl (lv_room (Nat.le_of_ble_eq_true rfl)) dX11_part_13 ⟨Nat.le_of_ble_eq_true rfl, Nat.le_of_ble_eq_true rfl⟩ (fun H locs hP hD hS => ?_)
        have hP : va_P D vwCl [(a_t_now, .inl (cI, 1562, .inl t_now)), (a_t, .inr (11, [.int t_thrown, .ref a_t_now, .ref a_t_kept, .int t_isKept, .ref a_t_text, .int t_length, .ref a_t_passing, .int t_at_r10, .int t_fault_l5, .int t_open_l5, .int t_asked, .int t_byGun, .int t_prizeMost, .ref a_t_order, .ref a_t_times, .int t_listed])), (a_t_text, .inl (cB, 200, .inl t_text))] H := hP
        have hD : va_D A [(a_t_now, .inl (cI, 1562, .inl t_now)), (a_t, .inr (11, [.int t_thrown, .ref a_t_now, .ref a_t_kept, .int t_isKept, .ref a_t_text, .int t_length, .ref a_t_passing, .int t_at_r10, .int t_fault_l5, .int t_open_l5, .int t_asked, .int t_byGun, .int t_prizeMost, .ref a_t_order, .ref a_t_times, .int t_listed])), (a_t_text, .inl (cB, 200, .inl t_text))] := hD
        refine lv_bipush (v := (nI 38)) hx hb dX11_part_16 rfl ?_
        refine lv_icmp_ne (tgt := 53) hx hb dX11_part_18 (by decide) (fun c12 => ?_) (fun c12 => ?_)
        · have h := zz_f h c12
          exact X5_53 v1_5 t_at_r10 t_fault_l5 t_open_l5 _ _ _ h (hP.sub [1, 0, 2] rfl) (hD.sub [1, 0, 2] rfl rfl) hS (lv_sub hl [0, 1] rfl)
        · have h := zz_t h c12
          refine lv_aload_n hx hb dX11_part_21 rfl (lv_at hl 1 rfl) ?_
          refine lv_dup hx hb dX11_part_22 rfl ?_
          refine va_get (D := D) (ci := 11) (C := RX11) (T := TX11) (N := 16) hx hb hts qX11_part_X11 hown hK hP 1 rfl rfl 7 (by decide) (hts _ kX11_part_0) (fun _ h9 => h9) rfl dX11_part_23 ?_
          refine lv_iconst (v := (nI 1)) hx hb dX11_part_26 rfl ?_
          refine lv_iadd hx hb dX11_part_27 ?_
          refine va_put (D := D) (ci := 11) (ty := .int) (C := RX11) (T := TX11) (N := 16) hx hb hts qX11_part_X11 tyX11 tyX11_ok nmX11 hown hK hP hD hS 1 rfl rfl 7 (by decide) (hts _ kX11_part_0) (fun _ h9 => h9) rfl (by decide +kernel) rfl (by first | rfl | exact zz_fit) (Nat.le_of_ble_eq_true rfl) dX11_part_28 (fun H locs hP hD hS => ?_)
          have hP : va_P D vwCl [(a_t_now, .inl (cI, 1562, .inl t_now)), (a_t, .inr (11, [.int t_thrown, .ref a_t_now, .ref a_t_kept, .int t_isKept, .ref a_t_text, .int t_length, .ref a_t_passing, .int (t_at_r10 + (nI 1)), .int t_fault_l5, .int t_open_l5, .int t_asked, .int t_byGun, .int t_prizeMost, .ref a_t_order, .ref a_t_times, .int t_listed])), (a_t_text, .inl (cB, 200, .inl t_text))] H := hP
          have hD : va_D A [(a_t_now, .inl (cI, 1562, .inl t_now)), (a_t, .inr (11, [.int t_thrown, .ref a_t_now, .ref a_t_kept, .int t_isKept, .ref a_t_text, .int t_length, .ref a_t_passing, .int (t_at_r10 + (nI 1)), .int t_fault_l5, .int t_open_l5, .int t_asked, .int t_byGun, .int t_prizeMost, .ref a_t_order, .ref a_t_times, .int t_listed])), (a_t_text, .inl (cB, 200, .inl t_text))] := hD
          refine lv_aload_n hx hb dX11_part_31 rfl (lv_at hl 1 rfl) ?_
          obtain ⟨⟨b13, t_at_r14, t_fault_r15, t_open_r16⟩, e17, h⟩ := zz_b h
          dsimp only at h
          refine zVi (As := []) (rest := []) (C := RX11) (wr := []) [1, 0, 2] [] 0 ⟨hx, hb, hml, hown, hts⟩ (mX11_unit_2 l D cB cI cZ a_t a_t_now a_t_kept a_t_text a_t_passing a_t_order a_t_times t_thrown t_isKept t_length (t_at_r10 + (nI 1)) t_fault_l5 t_open_l5 t_asked t_byGun t_prizeMost t_listed t_now t_text H.size N T hT b13 t_at_r14 t_fault_r15 t_open_r16 e17) (cwV 0 hts gX11_part_X11_unit rfl rfl rfl (by decide +kernel) ⟨Nat.le_of_ble_eq_true rfl, Nat.le_of_ble_eq_true rfl⟩) hK hN hZ hP hD hS hA rfl rfl rfl rfl rfl rfl rfl rfl hl.1 rfl (lv_room (Nat.le_of_ble_eq_true rfl)) dX11_part_32 ⟨Nat.le_of_ble_eq_true rfl, Nat.le_of_ble_eq_true rfl⟩ (fun H locs hP hD hS => ?_)
          have hP : va_P D vwCl [(a_t, .inr (11, [.int t_thrown, .ref a_t_now, .ref a_t_kept, .int t_isKept, .ref a_t_text, .int t_length, .ref a_t_passing, .int t_at_r14, .int t_fault_r15, .int t_open_r16, .int t_asked, .int t_byGun, .int t_prizeMost, .ref a_t_order, .ref a_t_times, .int t_listed])), (a_t_now, .inl (cI, 1562, .inl t_now)), (a_t_text, .inl (cB, 200, .inl t_text))] H := hP
          have hD : va_D A [(a_t, .inr (11, [.int t_thrown, .ref a_t_now, .ref a_t_kept, .int t_isKept, .ref a_t_text, .int t_length, .ref a_t_passing, .int t_at_r14, .int t_fault_r15, .int t_open_r16, .int t_asked, .int t_byGun, .int t_prizeMost, .ref a_t_order, .ref a_t_times, .int t_listed])), (a_t_now, .inl (cI, 1562, .inl t_now)), (a_t_text, .inl (cB, 200, .inl t_text))] := hD
          refine lv_istore_n (lv' := [(2, .int (zb b13)), (1, .int (zb v1_5)), (0, .ref a_t)]) hx hb dX11_part_35 rfl hl (by decide) rfl (fun ls hl => ?_)
          refine lv_iload_n hx hb dX11_part_36 rfl (lv_at hl 1 rfl) ?_
          refine lv_if_eq (tgt := 48) hx hb dX11_part_37 (by decide) (fun c18 => ?_) (fun c18 => ?_)
          · have h := zz_t h c18
            refine lv_iconst (v := (nI 0)) hx hb dX11_part_48 rfl ?_
            refine lv_istore_n (lv' := [(1, .int (nI 0)), (2, .int (zb b13)), (0, .ref a_t)]) hx hb dX11_part_49 rfl hl (by decide) rfl (fun ls hl => ?_)
            refine lv_goto (tgt := 5) hx hb dX11_part_50 (by decide) ?_
            exact ih5 false t_at_r14 t_fault_r15 t_open_r16 _ _ _ h (hP.sub [0, 1, 2] rfl) (hD.sub [0, 1, 2] rfl rfl) hS (lv_sub hl [0, 2] rfl)
          · have h := zz_f h c18
            refine lv_iload_n hx hb dX11_part_40 rfl (lv_at hl 0 rfl) ?_
            refine lv_if_eq (tgt := 48) hx hb dX11_part_41 (by decide) (fun c19 => ?_) (fun c19 => ?_)
            · have h := zz_t h c19
              refine lv_iconst (v := (nI 0)) hx hb dX11_part_48 rfl ?_
              refine lv_istore_n (lv' := [(1, .int (nI 0)), (2, .int (zb b13)), (0, .ref a_t)]) hx hb dX11_part_49 rfl hl (by decide) rfl (fun ls hl => ?_)
              refine lv_goto (tgt := 5) hx hb dX11_part_50 (by decide) ?_
              exact ih5 false t_at_r14 t_fault_r15 t_open_r16 _ _ _ h (hP.sub [0, 1, 2] rfl) (hD.sub [0, 1, 2] rfl rfl) hS (lv_sub hl [0, 2] rfl)
            · have h := zz_f h c19
              refine lv_iconst (v := (nI 1)) hx hb dX11_part_44 rfl ?_
              refine lv_goto (tgt := 49) hx hb dX11_part_45 (by decide) ?_
              refine lv_istore_n (lv' := [(1, .int (nI 1)), (2, .int (zb b13)), (0, .ref a_t)]) hx hb dX11_part_49 rfl hl (by decide) rfl (fun ls hl => ?_)
              refine lv_goto (tgt := 5) hx hb dX11_part_50 (by decide) ?_
              exact ih5 true t_at_r14 t_fault_r15 t_open_r16 _ _ _ h (hP.sub [0, 1, 2] rfl) (hD.sub [0, 1, 2] rfl rfl) hS (lv_sub hl [0, 2] rfl)
  exact L5 N b1 t_at_r2 t_fault_r3 t_open_r4 _ _ _ h hP hD hS hl
set_option maxHeartbeats 4000000 in
set_option maxRecDepth 100000 in
theorem mX11_tests_2 (l : Launch) (D : va_G) (cB cI cZ : ClassId) (a_t : Nat) (a_t_now : Nat) (a_t_kept : Nat) (a_t_text : Nat) (a_t_passing : Nat) (a_t_order : Nat) (a_t_times : Nat) (t_thrown : Int32) (t_isKept : Int32) (t_length : Int32) (t_at : Int32) (t_fault : Int32) (t_open : Int32) (t_asked : Int32) (t_byGun : Int32) (t_prizeMost : Int32) (t_listed : Int32) (t_now : Nat → Int32) (t_text : Nat → Int32) (sz : Nat) (N : Nat) (b0 : Bool) (t_at' : Int32) (t_fault' : Int32) (t_open' : Int32) (h : fX11_testsD N 3 t_asked t_at t_fault t_length t_open t_now t_text = some (b0, t_at', t_fault', t_open')) : Met l yX11_tests wsX11_tests ({ frames := 10, cells := 0, slots := 0, locals := 227 } : Room) (va_Pc [.ref a_t] (zPre D (zT cB cI cZ) [(a_t, .inr (11, [.int t_thrown, .ref a_t_now, .ref a_t_kept, .int t_isKept, .ref a_t_text, .int t_length, .ref a_t_passing, .int t_at, .int t_fault, .int t_open, .int t_asked, .int t_byGun, .int t_prizeMost, .ref a_t_order, .ref a_t_times, .int t_listed])), (a_t_now, .inl (cI, 1562, .inl t_now)), (a_t_text, .inl (cB, 200, .inl t_text))] sz)) (zQi (zb b0) D (zT cB cI cZ) [(a_t, .inr (11, [.int t_thrown, .ref a_t_now, .ref a_t_kept, .int t_isKept, .ref a_t_text, .int t_length, .ref a_t_passing, .int t_at', .int t_fault', .int t_open', .int t_asked, .int t_byGun, .int t_prizeMost, .ref a_t_order, .ref a_t_times, .int t_listed])), (a_t_now, .inl (cI, 1562, .inl t_now)), (a_t_text, .inl (cB, 200, .inl t_text))] (va_A [(a_t, .inr (11, [.int t_thrown, .ref a_t_now, .ref a_t_kept, .int t_isKept, .ref a_t_text, .int t_length, .ref a_t_passing, .int t_at, .int t_fault, .int t_open, .int t_asked, .int t_byGun, .int t_prizeMost, .ref a_t_order, .ref a_t_times, .int t_listed])), (a_t_now, .inl (cI, 1562, .inl t_now)), (a_t_text, .inl (cB, 200, .inl t_text))] sz)) 0 0 (va_A [(a_t, .inr (11, [.int t_thrown, .ref a_t_now, .ref a_t_kept, .int t_isKept, .ref a_t_text, .int t_length, .ref a_t_passing, .int t_at, .int t_fault, .int t_open, .int t_asked, .int t_byGun, .int t_prizeMost, .ref a_t_order, .ref a_t_times, .int t_listed])), (a_t_now, .inl (cI, 1562, .inl t_now)), (a_t_text, .inl (cB, 200, .inl t_text))] sz) := by
  refine Met.ofW (cc := cX11_tests) (maxL := 3) (ret := (some .boolean)) (by decide) rfl ?_
  intro p e s m args below meth c s₁ B hml hv
  obtain ⟨rfl, hsz, hP, hK, hN, hZ, hD0⟩ := hv
  have hx := B.exec
  have hb := B.bytes
  have hr := B.returns
  have hts := atoms_spec (ws := wsX11_tests) B.pre
  have hown : s.vm.findClass RX11 = some m.cls := findClass_of_methodNamed B.named
  have hlocks := B.notSynchronized
  subst hsz
  have hD := hD0.self (sz := s.heap.size)
  generalize hAe : va_A [(a_t, .inr (11, [.int t_thrown, .ref a_t_now, .ref a_t_kept, .int t_isKept, .ref a_t_text, .int t_length, .ref a_t_passing, .int t_at, .int t_fault, .int t_open, .int t_asked, .int t_byGun, .int t_prizeMost, .ref a_t_order, .ref a_t_times, .int t_listed])), (a_t_now, .inl (cI, 1562, .inl t_now)), (a_t_text, .inl (cB, 200, .inl t_text))] s.heap.size = A at hD hZ ⊢
  have hA : ∀ q : Nat, s.heap.size ≤ q → A q := fun q h => by rw [← hAe]; exact Or.inr h
  have hS : va_S A s.heap s.heap [] := va_S.rf
  have hl := lv_entry ([.ref a_t]) (n := 3) (Nat.le_of_ble_eq_true rfl)
  rw [lg_entry_eq]
  generalize (lg_sl ([.ref a_t]) ++ List.replicate (3 - (lg_sl ([.ref a_t])).length) Slot.unset).toArray = ls at hl ⊢
  have hl : lv_has ls 3 [(0, .ref a_t)] := hl
  obtain ⟨T, hT⟩ : ∃ T, T = fX11_testsD N 2 := ⟨_, rfl⟩; have h : fX11_tests_ T N t_asked t_at t_fault t_length t_open t_now t_text = some (b0, t_at', t_fault', t_open') := by rw [hT]; exact h
  unfold fX11_tests_ at h
  refine lv_aload_n hx hb dX11_tests_0 rfl (lv_at hl 0 rfl) ?_
  obtain ⟨⟨b1, t_at_r2, t_fault_r3, t_open_r4⟩, e5, h⟩ := zz_b h
  dsimp only at h
  refine zVi (As := []) (rest := []) (C := RX11) (wr := []) [0, 1, 2] [] 0 ⟨hx, hb, hml, hown, hts⟩ (mX11_part_2 l D cB cI cZ a_t a_t_now a_t_kept a_t_text a_t_passing a_t_order a_t_times t_thrown t_isKept t_length t_at t_fault t_open t_asked t_byGun t_prizeMost t_listed t_now t_text s.heap.size N T hT b1 t_at_r2 t_fault_r3 t_open_r4 e5) (cwV 0 hts gX11_tests_X11_part rfl rfl rfl (by decide +kernel) ⟨Nat.le_of_ble_eq_true rfl, Nat.le_of_ble_eq_true rfl⟩) hK hN hZ hP hD hS hA rfl rfl rfl rfl rfl rfl rfl rfl hl.1 rfl (lv_room (Nat.le_of_ble_eq_true rfl)) dX11_tests_1 ⟨Nat.le_of_ble_eq_true rfl, Nat.le_of_ble_eq_true rfl⟩ (fun H locs hP hD hS => ?_)
  have hP : va_P D vwCl [(a_t, .inr (11, [.int t_thrown, .ref a_t_now, .ref a_t_kept, .int t_isKept, .ref a_t_text, .int t_length, .ref a_t_passing, .int t_at_r2, .int t_fault_r3, .int t_open_r4, .int t_asked, .int t_byGun, .int t_prizeMost, .ref a_t_order, .ref a_t_times, .int t_listed])), (a_t_now, .inl (cI, 1562, .inl t_now)), (a_t_text, .inl (cB, 200, .inl t_text))] H := hP
  have hD : va_D A [(a_t, .inr (11, [.int t_thrown, .ref a_t_now, .ref a_t_kept, .int t_isKept, .ref a_t_text, .int t_length, .ref a_t_passing, .int t_at_r2, .int t_fault_r3, .int t_open_r4, .int t_asked, .int t_byGun, .int t_prizeMost, .ref a_t_order, .ref a_t_times, .int t_listed])), (a_t_now, .inl (cI, 1562, .inl t_now)), (a_t_text, .inl (cB, 200, .inl t_text))] := hD
  refine lv_istore_n (lv' := [(1, .int (zb b1)), (0, .ref a_t)]) hx hb dX11_tests_4 rfl hl (by decide) rfl (fun ls hl => ?_)
  have X5_53 : ∀ (v1_5 : Bool) (t_at_l5 : Int32) (t_fault_l5 : Int32) (t_open_l5 : Int32) (H : Heap) (locs : List Loc) (ls : Array Slot), some (v1_5, t_at_l5, t_fault_l5, t_open_l5) = some (b0, t_at', t_fault', t_open') → va_P D vwCl [(a_t, .inr (11, [.int t_thrown, .ref a_t_now, .ref a_t_kept, .int t_isKept, .ref a_t_text, .int t_length, .ref a_t_passing, .int t_at_l5, .int t_fault_l5, .int t_open_l5, .int t_asked, .int t_byGun, .int t_prizeMost, .ref a_t_order, .ref a_t_times, .int t_listed])), (a_t_now, .inl (cI, 1562, .inl t_now)), (a_t_text, .inl (cB, 200, .inl t_text))] H → va_D A [(a_t, .inr (11, [.int t_thrown, .ref a_t_now, .ref a_t_kept, .int t_isKept, .ref a_t_text, .int t_length, .ref a_t_passing, .int t_at_l5, .int t_fault_l5, .int t_open_l5, .int t_asked, .int t_byGun, .int t_prizeMost, .ref a_t_order, .ref a_t_times, .int t_listed])), (a_t_now, .inl (cI, 1562, .inl t_now)), (a_t_text, .inl (cB, 200, .inl t_text))] → va_S A s.heap H locs → lv_has ls 3 [(1, .int (zb v1_5)), (0, .ref a_t)] → W p l e (headSpec wsX11_tests ({ frames := 10, cells := 0, slots := 0, locals := 227 } : Room)).room s m #[Value.ref a_t] below meth c H locs 0 0 (MQ below (zQi (zb b0) D (zT cB cI cZ) [(a_t, .inr (11, [.int t_thrown, .ref a_t_now, .ref a_t_kept, .int t_isKept, .ref a_t_text, .int t_length, .ref a_t_passing, .int t_at', .int t_fault', .int t_open', .int t_asked, .int t_byGun, .int t_prizeMost, .ref a_t_order, .ref a_t_times, .int t_listed])), (a_t_now, .inl (cI, 1562, .inl t_now)), (a_t_text, .inl (cB, 200, .inl t_text))] A) #[Value.ref a_t] s 0 0 A) (F0 m 53 ls []) := by
    intro v1_5 t_at_l5 t_fault_l5 t_open_l5 H locs ls h hP hD hS hl
    refine lv_iload_n hx hb dX11_tests_53 rfl (lv_at hl 0 rfl) ?_
    obtain ⟨j0_, g_⟩ := Prod.mk.inj (Option.some.inj h)
    obtain ⟨j1_, g_⟩ := Prod.mk.inj g_
    obtain ⟨j2_, g_⟩ := Prod.mk.inj g_
    have j3_ := g_
    subst j0_
    subst j1_
    subst j2_
    subst j3_
    exact W.zret (v := (zb v1_5)) hx hb hr zz_n (fun t ht hW => ⟨⟨_, (), rfl, rfl, zPost.of hP hD hK ht hW [0, 1, 2] rfl rfl rfl⟩, hS.F ht⟩) hS.2.2 dX11_tests_54
  have L5 : ∀ (n : Nat) (v1_5 : Bool) (t_at_l5 : Int32) (t_fault_l5 : Int32) (t_open_l5 : Int32) (H : Heap) (locs : List Loc) (ls : Array Slot), fX11_tests_L5 N T t_length t_asked t_now t_text (fun (v1_5 : Bool) (t_at_l5 : Int32) (t_fault_l5 : Int32) (t_open_l5 : Int32) => some (v1_5, t_at_l5, t_fault_l5, t_open_l5)) n v1_5 t_at_l5 t_fault_l5 t_open_l5 = some (b0, t_at', t_fault', t_open') → va_P D vwCl [(a_t, .inr (11, [.int t_thrown, .ref a_t_now, .ref a_t_kept, .int t_isKept, .ref a_t_text, .int t_length, .ref a_t_passing, .int t_at_l5, .int t_fault_l5, .int t_open_l5, .int t_asked, .int t_byGun, .int t_prizeMost, .ref a_t_order, .ref a_t_times, .int t_listed])), (a_t_now, .inl (cI, 1562, .inl t_now)), (a_t_text, .inl (cB, 200, .inl t_text))] H → va_D A [(a_t, .inr (11, [.int t_thrown, .ref a_t_now, .ref a_t_kept, .int t_isKept, .ref a_t_text, .int t_length, .ref a_t_passing, .int t_at_l5, .int t_fault_l5, .int t_open_l5, .int t_asked, .int t_byGun, .int t_prizeMost, .ref a_t_order, .ref a_t_times, .int t_listed])), (a_t_now, .inl (cI, 1562, .inl t_now)), (a_t_text, .inl (cB, 200, .inl t_text))] → va_S A s.heap H locs → lv_has ls 3 [(1, .int (zb v1_5)), (0, .ref a_t)] → W p l e (headSpec wsX11_tests ({ frames := 10, cells := 0, slots := 0, locals := 227 } : Room)).room s m #[Value.ref a_t] below meth c H locs 0 0 (MQ below (zQi (zb b0) D (zT cB cI cZ) [(a_t, .inr (11, [.int t_thrown, .ref a_t_now, .ref a_t_kept, .int t_isKept, .ref a_t_text, .int t_length, .ref a_t_passing, .int t_at', .int t_fault', .int t_open', .int t_asked, .int t_byGun, .int t_prizeMost, .ref a_t_order, .ref a_t_times, .int t_listed])), (a_t_now, .inl (cI, 1562, .inl t_now)), (a_t_text, .inl (cB, 200, .inl t_text))] A) #[Value.ref a_t] s 0 0 A) (F0 m 5 ls []) := by
    intro n
    induction n with
    | zero => intro _ _ _ _ H locs ls h hP hD hS hl; cases h
    | succ n5 ih5 =>
      intro v1_5 t_at_l5 t_fault_l5 t_open_l5 H locs ls h hP hD hS hl
      rw [fX11_tests_L5.eq_2] at h
      refine lv_aload_n hx hb dX11_tests_5 rfl (lv_at hl 1 rfl) ?_
      obtain ⟨b6, e7, h⟩ := zz_b h
      refine zVi (As := []) (rest := []) (C := RX11) (wr := [(a_t_now, .inl (cI, 1562, .inl t_now)), (a_t_text, .inl (cB, 200, .inl t_text))]) [0] [1, 2] 0 ⟨hx, hb, hml, hown, hts⟩ (mX11_isFine l D cB cI cZ a_t a_t_now a_t_kept a_t_text a_t_passing a_t_order a_t_times t_thrown t_isKept t_length t_at_l5 t_fault_l5 t_open_l5 t_asked t_byGun t_prizeMost t_listed H.size b6 e7) (cwV 0 hts gX11_tests_X11_isFine rfl rfl rfl (by decide +kernel) ⟨Nat.le_of_ble_eq_true rfl, Nat.le_of_ble_eq_true rfl⟩) hK hN hZ hP hD hS hA rfl rfl rfl rfl rfl rfl rfl rfl hl.1 rfl (lv_room (Nat.le_of_ble_eq_true rfl)) dX11_tests_6 ⟨Nat.le_of_ble_eq_true rfl, Nat.le_of_ble_eq_true rfl⟩ (fun H locs hP hD hS => ?_)
      have hP : va_P D vwCl [(a_t_now, .inl (cI, 1562, .inl t_now)), (a_t_text, .inl (cB, 200, .inl t_text)), (a_t, .inr (11, [.int t_thrown, .ref a_t_now, .ref a_t_kept, .int t_isKept, .ref a_t_text, .int t_length, .ref a_t_passing, .int t_at_l5, .int t_fault_l5, .int t_open_l5, .int t_asked, .int t_byGun, .int t_prizeMost, .ref a_t_order, .ref a_t_times, .int t_listed]))] H := hP
      have hD : va_D A [(a_t_now, .inl (cI, 1562, .inl t_now)), (a_t_text, .inl (cB, 200, .inl t_text)), (a_t, .inr (11, [.int t_thrown, .ref a_t_now, .ref a_t_kept, .int t_isKept, .ref a_t_text, .int t_length, .ref a_t_passing, .int t_at_l5, .int t_fault_l5, .int t_open_l5, .int t_asked, .int t_byGun, .int t_prizeMost, .ref a_t_order, .ref a_t_times, .int t_listed]))] := hD
      refine lv_if_eq (tgt := 53) hx hb dX11_tests_9 (by decide) (fun c8 => ?_) (fun c8 => ?_)
      · have h := zz_t h c8
        exact X5_53 v1_5 t_at_l5 t_fault_l5 t_open_l5 _ _ _ h (hP.sub [2, 0, 1] rfl) (hD.sub [2, 0, 1] rfl rfl) hS (lv_sub hl [0, 1] rfl)
      · have h := zz_f h c8
        refine lv_aload_n hx hb dX11_tests_12 rfl (lv_at hl 1 rfl) ?_
        obtain ⟨⟨r9, t_at_r10⟩, e11, h⟩ := zz_b h
        dsimp only at h
        refine zVi (As := []) (rest := []) (C := RX11) (wr := [(a_t_now, .inl (cI, 1562, .inl t_now))]) [2, 1] [0] 0 ⟨hx, hb, hml, hown, hts⟩ (mX11_look l D cB cI cZ a_t a_t_now a_t_kept a_t_text a_t_passing a_t_order a_t_times t_thrown t_isKept t_length t_at_l5 t_fault_l5 t_open_l5 t_asked t_byGun t_prizeMost t_listed t_text H.size N r9 t_at_r10 e11) (cwV 0 hts gX11_tests_X11_look rfl rfl rfl (by decide +kernel) ⟨Nat.le_of_ble_eq_true rfl, Nat.le_of_ble_eq_true rfl⟩) hK hN hZ hP hD hS hA rfl rfl rfl rfl rfl rfl rfl rfl hl.1 rfl (lv_room (Nat.le_of_ble_eq_true rfl)) dX11_tests_13 ⟨Nat.le_of_ble_eq_true rfl, Nat.le_of_ble_eq_true rfl⟩ (fun H locs hP hD hS => ?_)
        have hP : va_P D vwCl [(a_t_now, .inl (cI, 1562, .inl t_now)), (a_t, .inr (11, [.int t_thrown, .ref a_t_now, .ref a_t_kept, .int t_isKept, .ref a_t_text, .int t_length, .ref a_t_passing, .int t_at_r10, .int t_fault_l5, .int t_open_l5, .int t_asked, .int t_byGun, .int t_prizeMost, .ref a_t_order, .ref a_t_times, .int t_listed])), (a_t_text, .inl (cB, 200, .inl t_text))] H := hP
        have hD : va_D A [(a_t_now, .inl (cI, 1562, .inl t_now)), (a_t, .inr (11, [.int t_thrown, .ref a_t_now, .ref a_t_kept, .int t_isKept, .ref a_t_text, .int t_length, .ref a_t_passing, .int t_at_r10, .int t_fault_l5, .int t_open_l5, .int t_asked, .int t_byGun, .int t_prizeMost, .ref a_t_order, .ref a_t_times, .int t_listed])), (a_t_text, .inl (cB, 200, .inl t_text))] := hD
        refine lv_bipush (v := (nI 124)) hx hb dX11_tests_16 rfl ?_
        refine lv_icmp_ne (tgt := 53) hx hb dX11_tests_18 (by decide) (fun c12 => ?_) (fun c12 => ?_)
        · have h := zz_f h c12
          exact X5_53 v1_5 t_at_r10 t_fault_l5 t_open_l5 _ _ _ h (hP.sub [1, 0, 2] rfl) (hD.sub [1, 0, 2] rfl rfl) hS (lv_sub hl [0, 1] rfl)
        · have h := zz_t h c12
          refine lv_aload_n hx hb dX11_tests_21 rfl (lv_at hl 1 rfl) ?_
          refine lv_dup hx hb dX11_tests_22 rfl ?_
          refine va_get (D := D) (ci := 11) (C := RX11) (T := TX11) (N := 16) hx hb hts qX11_tests_X11 hown hK hP 1 rfl rfl 7 (by decide) (hts _ kX11_tests_0) (fun _ h9 => h9) rfl dX11_tests_23 ?_
          refine lv_iconst (v := (nI 1)) hx hb dX11_tests_26 rfl ?_
          refine lv_iadd hx hb dX11_tests_27 ?_
          refine va_put (D := D) (ci := 11) (ty := .int) (C := RX11) (T := TX11) (N := 16) hx hb hts qX11_tests_X11 tyX11 tyX11_ok nmX11 hown hK hP hD hS 1 rfl rfl 7 (by decide) (hts _ kX11_tests_0) (fun _ h9 => h9) rfl (by decide +kernel) rfl (by first | rfl | exact zz_fit) (Nat.le_of_ble_eq_true rfl) dX11_tests_28 (fun H locs hP hD hS => ?_)
          have hP : va_P D vwCl [(a_t_now, .inl (cI, 1562, .inl t_now)), (a_t, .inr (11, [.int t_thrown, .ref a_t_now, .ref a_t_kept, .int t_isKept, .ref a_t_text, .int t_length, .ref a_t_passing, .int (t_at_r10 + (nI 1)), .int t_fault_l5, .int t_open_l5, .int t_asked, .int t_byGun, .int t_prizeMost, .ref a_t_order, .ref a_t_times, .int t_listed])), (a_t_text, .inl (cB, 200, .inl t_text))] H := hP
          have hD : va_D A [(a_t_now, .inl (cI, 1562, .inl t_now)), (a_t, .inr (11, [.int t_thrown, .ref a_t_now, .ref a_t_kept, .int t_isKept, .ref a_t_text, .int t_length, .ref a_t_passing, .int (t_at_r10 + (nI 1)), .int t_fault_l5, .int t_open_l5, .int t_asked, .int t_byGun, .int t_prizeMost, .ref a_t_order, .ref a_t_times, .int t_listed])), (a_t_text, .inl (cB, 200, .inl t_text))] := hD
          refine lv_aload_n hx hb dX11_tests_31 rfl (lv_at hl 1 rfl) ?_
          obtain ⟨⟨b13, t_at_r14, t_fault_r15, t_open_r16⟩, e17, h⟩ := zz_b h
          dsimp only at h
          refine zVi (As := []) (rest := []) (C := RX11) (wr := []) [1, 0, 2] [] 0 ⟨hx, hb, hml, hown, hts⟩ (mX11_part_2 l D cB cI cZ a_t a_t_now a_t_kept a_t_text a_t_passing a_t_order a_t_times t_thrown t_isKept t_length (t_at_r10 + (nI 1)) t_fault_l5 t_open_l5 t_asked t_byGun t_prizeMost t_listed t_now t_text H.size N T hT b13 t_at_r14 t_fault_r15 t_open_r16 e17) (cwV 0 hts gX11_tests_X11_part rfl rfl rfl (by decide +kernel) ⟨Nat.le_of_ble_eq_true rfl, Nat.le_of_ble_eq_true rfl⟩) hK hN hZ hP hD hS hA rfl rfl rfl rfl rfl rfl rfl rfl hl.1 rfl (lv_room (Nat.le_of_ble_eq_true rfl)) dX11_tests_32 ⟨Nat.le_of_ble_eq_true rfl, Nat.le_of_ble_eq_true rfl⟩ (fun H locs hP hD hS => ?_)
          have hP : va_P D vwCl [(a_t, .inr (11, [.int t_thrown, .ref a_t_now, .ref a_t_kept, .int t_isKept, .ref a_t_text, .int t_length, .ref a_t_passing, .int t_at_r14, .int t_fault_r15, .int t_open_r16, .int t_asked, .int t_byGun, .int t_prizeMost, .ref a_t_order, .ref a_t_times, .int t_listed])), (a_t_now, .inl (cI, 1562, .inl t_now)), (a_t_text, .inl (cB, 200, .inl t_text))] H := hP
          have hD : va_D A [(a_t, .inr (11, [.int t_thrown, .ref a_t_now, .ref a_t_kept, .int t_isKept, .ref a_t_text, .int t_length, .ref a_t_passing, .int t_at_r14, .int t_fault_r15, .int t_open_r16, .int t_asked, .int t_byGun, .int t_prizeMost, .ref a_t_order, .ref a_t_times, .int t_listed])), (a_t_now, .inl (cI, 1562, .inl t_now)), (a_t_text, .inl (cB, 200, .inl t_text))] := hD
          refine lv_istore_n (lv' := [(2, .int (zb b13)), (1, .int (zb v1_5)), (0, .ref a_t)]) hx hb dX11_tests_35 rfl hl (by decide) rfl (fun ls hl => ?_)
          refine lv_iload_n hx hb dX11_tests_36 rfl (lv_at hl 1 rfl) ?_
          refine lv_if_ne (tgt := 44) hx hb dX11_tests_37 (by decide) (fun c18 => ?_) (fun c18 => ?_)
          · have h := zz_f h c18
            refine lv_iconst (v := (nI 1)) hx hb dX11_tests_44 rfl ?_
            refine lv_goto (tgt := 49) hx hb dX11_tests_45 (by decide) ?_
            refine lv_istore_n (lv' := [(1, .int (nI 1)), (2, .int (zb b13)), (0, .ref a_t)]) hx hb dX11_tests_49 rfl hl (by decide) rfl (fun ls hl => ?_)
            refine lv_goto (tgt := 5) hx hb dX11_tests_50 (by decide) ?_
            exact ih5 true t_at_r14 t_fault_r15 t_open_r16 _ _ _ h (hP.sub [0, 1, 2] rfl) (hD.sub [0, 1, 2] rfl rfl) hS (lv_sub hl [0, 2] rfl)
          · have h := zz_t h c18
            refine lv_iload_n hx hb dX11_tests_40 rfl (lv_at hl 0 rfl) ?_
            refine lv_if_eq (tgt := 48) hx hb dX11_tests_41 (by decide) (fun c19 => ?_) (fun c19 => ?_)
            · have h := zz_t h c19
              refine lv_iconst (v := (nI 0)) hx hb dX11_tests_48 rfl ?_
              refine lv_istore_n (lv' := [(1, .int (nI 0)), (2, .int (zb b13)), (0, .ref a_t)]) hx hb dX11_tests_49 rfl hl (by decide) rfl (fun ls hl => ?_)
              refine lv_goto (tgt := 5) hx hb dX11_tests_50 (by decide) ?_
              exact ih5 false t_at_r14 t_fault_r15 t_open_r16 _ _ _ h (hP.sub [0, 1, 2] rfl) (hD.sub [0, 1, 2] rfl rfl) hS (lv_sub hl [0, 2] rfl)
            · have h := zz_f h c19
              refine lv_iconst (v := (nI 1)) hx hb dX11_tests_44 rfl ?_
              refine lv_goto (tgt := 49) hx hb dX11_tests_45 (by decide) ?_
              refine lv_istore_n (lv' := [(1, .int (nI 1)), (2, .int (zb b13)), (0, .ref a_t)]) hx hb dX11_tests_49 rfl hl (by decide) rfl (fun ls hl => ?_)
              refine lv_goto (tgt := 5) hx hb dX11_tests_50 (by decide) ?_
              exact ih5 true t_at_r14 t_fault_r15 t_open_r16 _ _ _ h (hP.sub [0, 1, 2] rfl) (hD.sub [0, 1, 2] rfl rfl) hS (lv_sub hl [0, 2] rfl)
  exact L5 N b1 t_at_r2 t_fault_r3 t_open_r4 _ _ _ h hP hD hS hl
set_option maxHeartbeats 4000000 in
set_option maxRecDepth 100000 in
theorem mX11_unit_3 (l : Launch) (D : va_G) (cB cI cZ : ClassId) (a_t : Nat) (a_t_now : Nat) (a_t_kept : Nat) (a_t_text : Nat) (a_t_passing : Nat) (a_t_order : Nat) (a_t_times : Nat) (t_thrown : Int32) (t_isKept : Int32) (t_length : Int32) (t_at : Int32) (t_fault : Int32) (t_open : Int32) (t_asked : Int32) (t_byGun : Int32) (t_prizeMost : Int32) (t_listed : Int32) (t_now : Nat → Int32) (t_text : Nat → Int32) (sz : Nat) (N : Nat) (T : Int32 → Int32 → Int32 → Int32 → Int32 → (Nat → Int32) → (Nat → Int32) → Option (Bool × Int32 × Int32 × Int32)) (hT : T = fX11_testsD N 3) (b0 : Bool) (t_at' : Int32) (t_fault' : Int32) (t_open' : Int32) (h : fX11_unit T N t_asked t_at t_fault t_length t_open t_now t_text = some (b0, t_at', t_fault', t_open')) : Met l yX11_unit wsX11_unit ({ frames := 11, cells := 0, slots := 0, locals := 249 } : Room) (va_Pc [.ref a_t] (zPre D (zT cB cI cZ) [(a_t, .inr (11, [.int t_thrown, .ref a_t_now, .ref a_t_kept, .int t_isKept, .ref a_t_text, .int t_length, .ref a_t_passing, .int t_at, .int t_fault, .int t_open, .int t_asked, .int t_byGun, .int t_prizeMost, .ref a_t_order, .ref a_t_times, .int t_listed])), (a_t_now, .inl (cI, 1562, .inl t_now)), (a_t_text, .inl (cB, 200, .inl t_text))] sz)) (zQi (zb b0) D (zT cB cI cZ) [(a_t, .inr (11, [.int t_thrown, .ref a_t_now, .ref a_t_kept, .int t_isKept, .ref a_t_text, .int t_length, .ref a_t_passing, .int t_at', .int t_fault', .int t_open', .int t_asked, .int t_byGun, .int t_prizeMost, .ref a_t_order, .ref a_t_times, .int t_listed])), (a_t_now, .inl (cI, 1562, .inl t_now)), (a_t_text, .inl (cB, 200, .inl t_text))] (va_A [(a_t, .inr (11, [.int t_thrown, .ref a_t_now, .ref a_t_kept, .int t_isKept, .ref a_t_text, .int t_length, .ref a_t_passing, .int t_at, .int t_fault, .int t_open, .int t_asked, .int t_byGun, .int t_prizeMost, .ref a_t_order, .ref a_t_times, .int t_listed])), (a_t_now, .inl (cI, 1562, .inl t_now)), (a_t_text, .inl (cB, 200, .inl t_text))] sz)) 0 0 (va_A [(a_t, .inr (11, [.int t_thrown, .ref a_t_now, .ref a_t_kept, .int t_isKept, .ref a_t_text, .int t_length, .ref a_t_passing, .int t_at, .int t_fault, .int t_open, .int t_asked, .int t_byGun, .int t_prizeMost, .ref a_t_order, .ref a_t_times, .int t_listed])), (a_t_now, .inl (cI, 1562, .inl t_now)), (a_t_text, .inl (cB, 200, .inl t_text))] sz) := by
  refine Met.ofW (cc := cX11_unit) (maxL := 6) (ret := (some .boolean)) (by decide) rfl ?_
  intro p e s m args below meth c s₁ B hml hv
  obtain ⟨rfl, hsz, hP, hK, hN, hZ, hD0⟩ := hv
  have hx := B.exec
  have hb := B.bytes
  have hr := B.returns
  have hts := atoms_spec (ws := wsX11_unit) B.pre
  have hown : s.vm.findClass RX11 = some m.cls := findClass_of_methodNamed B.named
  have hlocks := B.notSynchronized
  subst hsz
  have hD := hD0.self (sz := s.heap.size)
  generalize hAe : va_A [(a_t, .inr (11, [.int t_thrown, .ref a_t_now, .ref a_t_kept, .int t_isKept, .ref a_t_text, .int t_length, .ref a_t_passing, .int t_at, .int t_fault, .int t_open, .int t_asked, .int t_byGun, .int t_prizeMost, .ref a_t_order, .ref a_t_times, .int t_listed])), (a_t_now, .inl (cI, 1562, .inl t_now)), (a_t_text, .inl (cB, 200, .inl t_text))] s.heap.size = A at hD hZ ⊢
  have hA : ∀ q : Nat, s.heap.size ≤ q → A q := fun q h => by rw [← hAe]; exact Or.inr h
  have hS : va_S A s.heap s.heap [] := va_S.rf
  have hl := lv_entry ([.ref a_t]) (n := 6) (Nat.le_of_ble_eq_true rfl)
  rw [lg_entry_eq]
  generalize (lg_sl ([.ref a_t]) ++ List.replicate (6 - (lg_sl ([.ref a_t])).length) Slot.unset).toArray = ls at hl ⊢
  have hl : lv_has ls 6 [(0, .ref a_t)] := hl
  unfold fX11_unit at h
  refine lv_aload_n hx hb dX11_unit_0 rfl (lv_at hl 0 rfl) ?_
  obtain ⟨⟨r1, t_at_r2⟩, e3, h⟩ := zz_b h
  dsimp only at h
  refine zVi (As := []) (rest := []) (C := RX11) (wr := [(a_t_now, .inl (cI, 1562, .inl t_now))]) [0, 2] [1] 0 ⟨hx, hb, hml, hown, hts⟩ (mX11_look l D cB cI cZ a_t a_t_now a_t_kept a_t_text a_t_passing a_t_order a_t_times t_thrown t_isKept t_length t_at t_fault t_open t_asked t_byGun t_prizeMost t_listed t_text s.heap.size N r1 t_at_r2 e3) (cwV 0 hts gX11_unit_X11_look rfl rfl rfl (by decide +kernel) ⟨Nat.le_of_ble_eq_true rfl, Nat.le_of_ble_eq_true rfl⟩) hK hN hZ hP hD hS hA rfl rfl rfl rfl rfl rfl rfl rfl hl.1 rfl (lv_room (Nat.le_of_ble_eq_true rfl)) dX11_unit_1 ⟨Nat.le_of_ble_eq_true rfl, Nat.le_of_ble_eq_true rfl⟩ (fun H locs hP hD hS => ?_)
  have hP : va_P D vwCl [(a_t_now, .inl (cI, 1562, .inl t_now)), (a_t, .inr (11, [.int t_thrown, .ref a_t_now, .ref a_t_kept, .int t_isKept, .ref a_t_text, .int t_length, .ref a_t_passing, .int t_at_r2, .int t_fault, .int t_open, .int t_asked, .int t_byGun, .int t_prizeMost, .ref a_t_order, .ref a_t_times, .int t_listed])), (a_t_text, .inl (cB, 200, .inl t_text))] H := hP
  have hD : va_D A [(a_t_now, .inl (cI, 1562, .inl t_now)), (a_t, .inr (11, [.int t_thrown, .ref a_t_now, .ref a_t_kept, .int t_isKept, .ref a_t_text, .int t_length, .ref a_t_passing, .int t_at_r2, .int t_fault, .int t_open, .int t_asked, .int t_byGun, .int t_prizeMost, .ref a_t_order, .ref a_t_times, .int t_listed])), (a_t_text, .inl (cB, 200, .inl t_text))] := hD
  refine lv_istore_n (lv' := [(1, .int r1), (0, .ref a_t)]) hx hb dX11_unit_4 rfl hl (by decide) rfl (fun ls hl => ?_)
  refine lv_iload_n hx hb dX11_unit_5 rfl (lv_at hl 0 rfl) ?_
  refine lv_bipush (v := (nI 40)) hx hb dX11_unit_6 rfl ?_
  refine lv_icmp_ne (tgt := 69) hx hb dX11_unit_8 (by decide) (fun c4 => ?_) (fun c4 => ?_)
  · have h := zz_f h c4
    refine lv_iload_n hx hb dX11_unit_69 rfl (lv_at hl 0 rfl) ?_
    refine lv_bipush (v := (nI 115)) hx hb dX11_unit_70 rfl ?_
    have J120 : ∀ (s0_j120 : Int32) (H : Heap) (locs : List Loc) (ls : Array Slot), fX11_unit_J120 N t_length t_fault t_open t_asked t_now t_text t_at_r2 s0_j120 = some (b0, t_at', t_fault', t_open') → va_P D vwCl [(a_t_now, .inl (cI, 1562, .inl t_now)), (a_t, .inr (11, [.int t_thrown, .ref a_t_now, .ref a_t_kept, .int t_isKept, .ref a_t_text, .int t_length, .ref a_t_passing, .int t_at_r2, .int t_fault, .int t_open, .int t_asked, .int t_byGun, .int t_prizeMost, .ref a_t_order, .ref a_t_times, .int t_listed])), (a_t_text, .inl (cB, 200, .inl t_text))] H → va_D A [(a_t_now, .inl (cI, 1562, .inl t_now)), (a_t, .inr (11, [.int t_thrown, .ref a_t_now, .ref a_t_kept, .int t_isKept, .ref a_t_text, .int t_length, .ref a_t_passing, .int t_at_r2, .int t_fault, .int t_open, .int t_asked, .int t_byGun, .int t_prizeMost, .ref a_t_order, .ref a_t_times, .int t_listed])), (a_t_text, .inl (cB, 200, .inl t_text))] → va_S A s.heap H locs → lv_has ls 6 [(1, .int r1), (0, .ref a_t)] → W p l e (headSpec wsX11_unit ({ frames := 11, cells := 0, slots := 0, locals := 249 } : Room)).room s m #[Value.ref a_t] below meth c H locs 0 0 (MQ below (zQi (zb b0) D (zT cB cI cZ) [(a_t, .inr (11, [.int t_thrown, .ref a_t_now, .ref a_t_kept, .int t_isKept, .ref a_t_text, .int t_length, .ref a_t_passing, .int t_at', .int t_fault', .int t_open', .int t_asked, .int t_byGun, .int t_prizeMost, .ref a_t_order, .ref a_t_times, .int t_listed])), (a_t_now, .inl (cI, 1562, .inl t_now)), (a_t_text, .inl (cB, 200, .inl t_text))] A) #[Value.ref a_t] s 0 0 A) (F0 m 120 ls [.int s0_j120]) := by
      intro s0_j120 H locs ls h hP hD hS hl
      unfold fX11_unit_J120 at h
      refine lv_istore_n (lv' := [(2, .int s0_j120), (1, .int r1), (0, .ref a_t)]) hx hb dX11_unit_120 rfl hl (by decide) rfl (fun ls hl => ?_)
      refine lv_iload_n hx hb dX11_unit_121 rfl (lv_at hl 0 rfl) ?_
      refine lv_iconst (v := (-1 : Int32)) hx hb dX11_unit_122 rfl ?_
      refine lv_icmp_ne (tgt := 132) hx hb dX11_unit_123 (by decide) (fun c5 => ?_) (fun c5 => ?_)
      · have h := zz_f h c5
        refine lv_aload_n hx hb dX11_unit_132 rfl (lv_at hl 2 rfl) ?_
        refine lv_dup hx hb dX11_unit_133 rfl ?_
        refine va_get (D := D) (ci := 11) (C := RX11) (T := TX11) (N := 16) hx hb hts qX11_unit_X11 hown hK hP 1 rfl rfl 7 (by decide) (hts _ kX11_unit_0) (fun _ h9 => h9) rfl dX11_unit_134 ?_
        refine lv_iconst (v := (nI 1)) hx hb dX11_unit_137 rfl ?_
        refine lv_iadd hx hb dX11_unit_138 ?_
        refine va_put (D := D) (ci := 11) (ty := .int) (C := RX11) (T := TX11) (N := 16) hx hb hts qX11_unit_X11 tyX11 tyX11_ok nmX11 hown hK hP hD hS 1 rfl rfl 7 (by decide) (hts _ kX11_unit_0) (fun _ h9 => h9) rfl (by decide +kernel) rfl (by first | rfl | exact zz_fit) (Nat.le_of_ble_eq_true rfl) dX11_unit_139 (fun H locs hP hD hS => ?_)
        have hP : va_P D vwCl [(a_t_now, .inl (cI, 1562, .inl t_now)), (a_t, .inr (11, [.int t_thrown, .ref a_t_now, .ref a_t_kept, .int t_isKept, .ref a_t_text, .int t_length, .ref a_t_passing, .int (t_at_r2 + (nI 1)), .int t_fault, .int t_open, .int t_asked, .int t_byGun, .int t_prizeMost, .ref a_t_order, .ref a_t_times, .int t_listed])), (a_t_text, .inl (cB, 200, .inl t_text))] H := hP
        have hD : va_D A [(a_t_now, .inl (cI, 1562, .inl t_now)), (a_t, .inr (11, [.int t_thrown, .ref a_t_now, .ref a_t_kept, .int t_isKept, .ref a_t_text, .int t_length, .ref a_t_passing, .int (t_at_r2 + (nI 1)), .int t_fault, .int t_open, .int t_asked, .int t_byGun, .int t_prizeMost, .ref a_t_order, .ref a_t_times, .int t_listed])), (a_t_text, .inl (cB, 200, .inl t_text))] := hD
        refine lv_aload_n hx hb dX11_unit_142 rfl (lv_at hl 2 rfl) ?_
        obtain ⟨⟨r6, t_at_r7⟩, e8, h⟩ := zz_b h
        dsimp only at h
        refine zVi (As := []) (rest := []) (C := RX11) (wr := [(a_t_now, .inl (cI, 1562, .inl t_now))]) [1, 2] [0] 0 ⟨hx, hb, hml, hown, hts⟩ (mX11_look l D cB cI cZ a_t a_t_now a_t_kept a_t_text a_t_passing a_t_order a_t_times t_thrown t_isKept t_length (t_at_r2 + (nI 1)) t_fault t_open t_asked t_byGun t_prizeMost t_listed t_text H.size N r6 t_at_r7 e8) (cwV 0 hts gX11_unit_X11_look rfl rfl rfl (by decide +kernel) ⟨Nat.le_of_ble_eq_true rfl, Nat.le_of_ble_eq_true rfl⟩) hK hN hZ hP hD hS hA rfl rfl rfl rfl rfl rfl rfl rfl hl.1 rfl (lv_room (Nat.le_of_ble_eq_true rfl)) dX11_unit_143 ⟨Nat.le_of_ble_eq_true rfl, Nat.le_of_ble_eq_true rfl⟩ (fun H locs hP hD hS => ?_)
        have hP : va_P D vwCl [(a_t_now, .inl (cI, 1562, .inl t_now)), (a_t, .inr (11, [.int t_thrown, .ref a_t_now, .ref a_t_kept, .int t_isKept, .ref a_t_text, .int t_length, .ref a_t_passing, .int t_at_r7, .int t_fault, .int t_open, .int t_asked, .int t_byGun, .int t_prizeMost, .ref a_t_order, .ref a_t_times, .int t_listed])), (a_t_text, .inl (cB, 200, .inl t_text))] H := hP
        have hD : va_D A [(a_t_now, .inl (cI, 1562, .inl t_now)), (a_t, .inr (11, [.int t_thrown, .ref a_t_now, .ref a_t_kept, .int t_isKept, .ref a_t_text, .int t_length, .ref a_t_passing, .int t_at_r7, .int t_fault, .int t_open, .int t_asked, .int t_byGun, .int t_prizeMost, .ref a_t_order, .ref a_t_times, .int t_listed])), (a_t_text, .inl (cB, 200, .inl t_text))] := hD
        refine lv_istore_n (lv' := [(3, .int r6), (2, .int s0_j120), (1, .int r1), (0, .ref a_t)]) hx hb dX11_unit_146 rfl hl (by decide) rfl (fun ls hl => ?_)
        refine lv_iload_n hx hb dX11_unit_147 rfl (lv_at hl 0 rfl) ?_
        refine lv_bipush (v := (nI 61)) hx hb dX11_unit_148 rfl ?_
        have J171 : ∀ (H : Heap) (locs : List Loc) (ls : Array Slot), fX11_unit_J171 N t_length t_fault t_open t_asked t_now t_text s0_j120 r6 t_at_r7 = some (b0, t_at', t_fault', t_open') → va_P D vwCl [(a_t_now, .inl (cI, 1562, .inl t_now)), (a_t, .inr (11, [.int t_thrown, .ref a_t_now, .ref a_t_kept, .int t_isKept, .ref a_t_text, .int t_length, .ref a_t_passing, .int t_at_r7, .int t_fault, .int t_open, .int t_asked, .int t_byGun, .int t_prizeMost, .ref a_t_order, .ref a_t_times, .int t_listed])), (a_t_text, .inl (cB, 200, .inl t_text))] H → va_D A [(a_t_now, .inl (cI, 1562, .inl t_now)), (a_t, .inr (11, [.int t_thrown, .ref a_t_now, .ref a_t_kept, .int t_isKept, .ref a_t_text, .int t_length, .ref a_t_passing, .int t_at_r7, .int t_fault, .int t_open, .int t_asked, .int t_byGun, .int t_prizeMost, .ref a_t_order, .ref a_t_times, .int t_listed])), (a_t_text, .inl (cB, 200, .inl t_text))] → va_S A s.heap H locs → lv_has ls 6 [(3, .int r6), (2, .int s0_j120), (1, .int r1), (0, .ref a_t)] → W p l e (headSpec wsX11_unit ({ frames := 11, cells := 0, slots := 0, locals := 249 } : Room)).room s m #[Value.ref a_t] below meth c H locs 0 0 (MQ below (zQi (zb b0) D (zT cB cI cZ) [(a_t, .inr (11, [.int t_thrown, .ref a_t_now, .ref a_t_kept, .int t_isKept, .ref a_t_text, .int t_length, .ref a_t_passing, .int t_at', .int t_fault', .int t_open', .int t_asked, .int t_byGun, .int t_prizeMost, .ref a_t_order, .ref a_t_times, .int t_listed])), (a_t_now, .inl (cI, 1562, .inl t_now)), (a_t_text, .inl (cB, 200, .inl t_text))] A) #[Value.ref a_t] s 0 0 A) (F0 m 171 ls []) := by
          intro  H locs ls h hP hD hS hl
          unfold fX11_unit_J171 at h
          refine lv_aload_n hx hb dX11_unit_171 rfl (lv_at hl 3 rfl) ?_
          refine lv_dup hx hb dX11_unit_172 rfl ?_
          refine va_get (D := D) (ci := 11) (C := RX11) (T := TX11) (N := 16) hx hb hts qX11_unit_X11 hown hK hP 1 rfl rfl 7 (by decide) (hts _ kX11_unit_0) (fun _ h9 => h9) rfl dX11_unit_173 ?_
          refine lv_iconst (v := (nI 1)) hx hb dX11_unit_176 rfl ?_
          refine lv_iadd hx hb dX11_unit_177 ?_
          refine va_put (D := D) (ci := 11) (ty := .int) (C := RX11) (T := TX11) (N := 16) hx hb hts qX11_unit_X11 tyX11 tyX11_ok nmX11 hown hK hP hD hS 1 rfl rfl 7 (by decide) (hts _ kX11_unit_0) (fun _ h9 => h9) rfl (by decide +kernel) rfl (by first | rfl | exact zz_fit) (Nat.le_of_ble_eq_true rfl) dX11_unit_178 (fun H locs hP hD hS => ?_)
          have hP : va_P D vwCl [(a_t_now, .inl (cI, 1562, .inl t_now)), (a_t, .inr (11, [.int t_thrown, .ref a_t_now, .ref a_t_kept, .int t_isKept, .ref a_t_text, .int t_length, .ref a_t_passing, .int (t_at_r7 + (nI 1)), .int t_fault, .int t_open, .int t_asked, .int t_byGun, .int t_prizeMost, .ref a_t_order, .ref a_t_times, .int t_listed])), (a_t_text, .inl (cB, 200, .inl t_text))] H := hP
          have hD : va_D A [(a_t_now, .inl (cI, 1562, .inl t_now)), (a_t, .inr (11, [.int t_thrown, .ref a_t_now, .ref a_t_kept, .int t_isKept, .ref a_t_text, .int t_length, .ref a_t_passing, .int (t_at_r7 + (nI 1)), .int t_fault, .int t_open, .int t_asked, .int t_byGun, .int t_prizeMost, .ref a_t_order, .ref a_t_times, .int t_listed])), (a_t_text, .inl (cB, 200, .inl t_text))] := hD
          refine lv_aload_n hx hb dX11_unit_181 rfl (lv_at hl 3 rfl) ?_
          obtain ⟨⟨r9, t_at_r10, t_fault_r11⟩, e12, h⟩ := zz_b h
          dsimp only at h
          refine zVi (As := []) (rest := []) (C := RX11) (wr := [(a_t_now, .inl (cI, 1562, .inl t_now))]) [1, 2] [0] 0 ⟨hx, hb, hml, hown, hts⟩ (mX11_number l D cB cI cZ a_t a_t_now a_t_kept a_t_text a_t_passing a_t_order a_t_times t_thrown t_isKept t_length (t_at_r7 + (nI 1)) t_fault t_open t_asked t_byGun t_prizeMost t_listed t_text H.size N r9 t_at_r10 t_fault_r11 e12) (cwV 0 hts gX11_unit_X11_number rfl rfl rfl (by decide +kernel) ⟨Nat.le_of_ble_eq_true rfl, Nat.le_of_ble_eq_true rfl⟩) hK hN hZ hP hD hS hA rfl rfl rfl rfl rfl rfl rfl rfl hl.1 rfl (lv_room (Nat.le_of_ble_eq_true rfl)) dX11_unit_182 ⟨Nat.le_of_ble_eq_true rfl, Nat.le_of_ble_eq_true rfl⟩ (fun H locs hP hD hS => ?_)
          have hP : va_P D vwCl [(a_t_now, .inl (cI, 1562, .inl t_now)), (a_t, .inr (11, [.int t_thrown, .ref a_t_now, .ref a_t_kept, .int t_isKept, .ref a_t_text, .int t_length, .ref a_t_passing, .int t_at_r10, .int t_fault_r11, .int t_open, .int t_asked, .int t_byGun, .int t_prizeMost, .ref a_t_order, .ref a_t_times, .int t_listed])), (a_t_text, .inl (cB, 200, .inl t_text))] H := hP
          have hD : va_D A [(a_t_now, .inl (cI, 1562, .inl t_now)), (a_t, .inr (11, [.int t_thrown, .ref a_t_now, .ref a_t_kept, .int t_isKept, .ref a_t_text, .int t_length, .ref a_t_passing, .int t_at_r10, .int t_fault_r11, .int t_open, .int t_asked, .int t_byGun, .int t_prizeMost, .ref a_t_order, .ref a_t_times, .int t_listed])), (a_t_text, .inl (cB, 200, .inl t_text))] := hD
          refine lv_istore (lv' := [(4, .int r9), (3, .int r6), (2, .int s0_j120), (1, .int r1), (0, .ref a_t)]) hx hb dX11_unit_185 hl (by decide) rfl (fun ls hl => ?_)
          refine lv_aload_n hx hb dX11_unit_187 rfl (lv_at hl 4 rfl) ?_
          refine va_get (D := D) (ci := 11) (C := RX11) (T := TX11) (N := 16) hx hb hts qX11_unit_X11 hown hK hP 1 rfl rfl 10 (by decide) (hts _ kX11_unit_2) (fun _ h9 => h9) rfl dX11_unit_188 ?_
          refine lv_iconst (v := (-1 : Int32)) hx hb dX11_unit_191 rfl ?_
          refine lv_icmp_ne (tgt := 199) hx hb dX11_unit_192 (by decide) (fun c13 => ?_) (fun c13 => ?_)
          · have h := zz_f h c13
            refine lv_aload_n hx hb dX11_unit_199 rfl (lv_at hl 4 rfl) ?_
            refine lv_aload_n hx hb dX11_unit_200 rfl (lv_at hl 4 rfl) ?_
            refine va_get (D := D) (ci := 11) (C := RX11) (T := TX11) (N := 16) hx hb hts qX11_unit_X11 hown hK hP 1 rfl rfl 10 (by decide) (hts _ kX11_unit_2) (fun _ h9 => h9) rfl dX11_unit_201 ?_
            refine lv_iload_n hx hb dX11_unit_204 rfl (lv_at hl 2 rfl) ?_
            obtain ⟨r14, e15, h⟩ := zz_b h
            refine zVi (As := [.int t_asked, .int s0_j120]) (rest := []) (C := RX11) (wr := [(a_t_text, .inl (cB, 200, .inl t_text))]) [1, 0] [2] 0 ⟨hx, hb, hml, hown, hts⟩ (mX11_of l D cB cI cZ a_t a_t_now a_t_kept a_t_text a_t_passing a_t_order a_t_times t_thrown t_isKept t_length t_at_r10 t_fault_r11 t_open t_asked t_byGun t_prizeMost t_listed t_now H.size t_asked s0_j120 r14 e15) (cwV 2 hts gX11_unit_X11_of rfl rfl rfl (by decide +kernel) ⟨Nat.le_of_ble_eq_true rfl, Nat.le_of_ble_eq_true rfl⟩) hK hN hZ hP hD hS hA rfl rfl rfl rfl rfl rfl rfl rfl hl.1 rfl (lv_room (Nat.le_of_ble_eq_true rfl)) dX11_unit_205 ⟨Nat.le_of_ble_eq_true rfl, Nat.le_of_ble_eq_true rfl⟩ (fun H locs hP hD hS => ?_)
            have hP : va_P D vwCl [(a_t_text, .inl (cB, 200, .inl t_text)), (a_t, .inr (11, [.int t_thrown, .ref a_t_now, .ref a_t_kept, .int t_isKept, .ref a_t_text, .int t_length, .ref a_t_passing, .int t_at_r10, .int t_fault_r11, .int t_open, .int t_asked, .int t_byGun, .int t_prizeMost, .ref a_t_order, .ref a_t_times, .int t_listed])), (a_t_now, .inl (cI, 1562, .inl t_now))] H := hP
            have hD : va_D A [(a_t_text, .inl (cB, 200, .inl t_text)), (a_t, .inr (11, [.int t_thrown, .ref a_t_now, .ref a_t_kept, .int t_isKept, .ref a_t_text, .int t_length, .ref a_t_passing, .int t_at_r10, .int t_fault_r11, .int t_open, .int t_asked, .int t_byGun, .int t_prizeMost, .ref a_t_order, .ref a_t_times, .int t_listed])), (a_t_now, .inl (cI, 1562, .inl t_now))] := hD
            refine lv_istore (lv' := [(5, .int r14), (4, .int r9), (3, .int r6), (2, .int s0_j120), (1, .int r1), (0, .ref a_t)]) hx hb dX11_unit_208 hl (by decide) rfl (fun ls hl => ?_)
            refine lv_iload_n hx hb dX11_unit_210 rfl (lv_at hl 2 rfl) ?_
            refine lv_bipush (v := (nI 61)) hx hb dX11_unit_211 rfl ?_
            refine lv_icmp_ne (tgt := 231) hx hb dX11_unit_213 (by decide) (fun c16 => ?_) (fun c16 => ?_)
            · have h := zz_f h c16
              refine lv_iload_n hx hb dX11_unit_231 rfl (lv_at hl 2 rfl) ?_
              refine lv_bipush (v := (nI 60)) hx hb dX11_unit_232 rfl ?_
              refine lv_icmp_ne (tgt := 252) hx hb dX11_unit_234 (by decide) (fun c17 => ?_) (fun c17 => ?_)
              · have h := zz_f h c17
                refine lv_iload hx hb dX11_unit_252 (lv_at hl 0 rfl) ?_
                refine lv_iload hx hb dX11_unit_254 (lv_at hl 1 rfl) ?_
                refine lv_icmp_le (tgt := 263) hx hb dX11_unit_256 (by decide) (fun c18 => ?_) (fun c18 => ?_)
                · have h := zz_t h c18
                  refine lv_iconst (v := (nI 0)) hx hb dX11_unit_263 rfl ?_
                  obtain ⟨j0_, g_⟩ := Prod.mk.inj (Option.some.inj h)
                  obtain ⟨j1_, g_⟩ := Prod.mk.inj g_
                  obtain ⟨j2_, g_⟩ := Prod.mk.inj g_
                  have j3_ := g_
                  subst j0_
                  subst j1_
                  subst j2_
                  subst j3_
                  exact W.zret (v := (nI 0)) hx hb hr rfl (fun t ht hW => ⟨⟨_, (), rfl, rfl, zPost.of hP hD hK ht hW [1, 2, 0] rfl rfl rfl⟩, hS.F ht⟩) hS.2.2 dX11_unit_264
                · have h := zz_f h c18
                  refine lv_iconst (v := (nI 1)) hx hb dX11_unit_259 rfl ?_
                  refine lv_goto (tgt := 264) hx hb dX11_unit_260 (by decide) ?_
                  obtain ⟨j0_, g_⟩ := Prod.mk.inj (Option.some.inj h)
                  obtain ⟨j1_, g_⟩ := Prod.mk.inj g_
                  obtain ⟨j2_, g_⟩ := Prod.mk.inj g_
                  have j3_ := g_
                  subst j0_
                  subst j1_
                  subst j2_
                  subst j3_
                  exact W.zret (v := (nI 1)) hx hb hr rfl (fun t ht hW => ⟨⟨_, (), rfl, rfl, zPost.of hP hD hK ht hW [1, 2, 0] rfl rfl rfl⟩, hS.F ht⟩) hS.2.2 dX11_unit_264
              · have h := zz_t h c17
                refine lv_iload hx hb dX11_unit_237 (lv_at hl 0 rfl) ?_
                refine lv_iload hx hb dX11_unit_239 (lv_at hl 1 rfl) ?_
                refine lv_icmp_ge (tgt := 248) hx hb dX11_unit_241 (by decide) (fun c19 => ?_) (fun c19 => ?_)
                · have h := zz_t h c19
                  refine lv_iconst (v := (nI 0)) hx hb dX11_unit_248 rfl ?_
                  refine lv_goto (tgt := 264) hx hb dX11_unit_249 (by decide) ?_
                  obtain ⟨j0_, g_⟩ := Prod.mk.inj (Option.some.inj h)
                  obtain ⟨j1_, g_⟩ := Prod.mk.inj g_
                  obtain ⟨j2_, g_⟩ := Prod.mk.inj g_
                  have j3_ := g_
                  subst j0_
                  subst j1_
                  subst j2_
                  subst j3_
                  exact W.zret (v := (nI 0)) hx hb hr rfl (fun t ht hW => ⟨⟨_, (), rfl, rfl, zPost.of hP hD hK ht hW [1, 2, 0] rfl rfl rfl⟩, hS.F ht⟩) hS.2.2 dX11_unit_264
                · have h := zz_f h c19
                  refine lv_iconst (v := (nI 1)) hx hb dX11_unit_244 rfl ?_
                  refine lv_goto (tgt := 264) hx hb dX11_unit_245 (by decide) ?_
                  obtain ⟨j0_, g_⟩ := Prod.mk.inj (Option.some.inj h)
                  obtain ⟨j1_, g_⟩ := Prod.mk.inj g_
                  obtain ⟨j2_, g_⟩ := Prod.mk.inj g_
                  have j3_ := g_
                  subst j0_
                  subst j1_
                  subst j2_
                  subst j3_
                  exact W.zret (v := (nI 1)) hx hb hr rfl (fun t ht hW => ⟨⟨_, (), rfl, rfl, zPost.of hP hD hK ht hW [1, 2, 0] rfl rfl rfl⟩, hS.F ht⟩) hS.2.2 dX11_unit_264
            · have h := zz_t h c16
              refine lv_iload hx hb dX11_unit_216 (lv_at hl 0 rfl) ?_
              refine lv_iload hx hb dX11_unit_218 (lv_at hl 1 rfl) ?_
              refine lv_icmp_ne (tgt := 227) hx hb dX11_unit_220 (by decide) (fun c20 => ?_) (fun c20 => ?_)
              · have h := zz_f h c20
                refine lv_iconst (v := (nI 0)) hx hb dX11_unit_227 rfl ?_
                refine lv_goto (tgt := 264) hx hb dX11_unit_228 (by decide) ?_
                obtain ⟨j0_, g_⟩ := Prod.mk.inj (Option.some.inj h)
                obtain ⟨j1_, g_⟩ := Prod.mk.inj g_
                obtain ⟨j2_, g_⟩ := Prod.mk.inj g_
                have j3_ := g_
                subst j0_
                subst j1_
                subst j2_
                subst j3_
                exact W.zret (v := (nI 0)) hx hb hr rfl (fun t ht hW => ⟨⟨_, (), rfl, rfl, zPost.of hP hD hK ht hW [1, 2, 0] rfl rfl rfl⟩, hS.F ht⟩) hS.2.2 dX11_unit_264
              · have h := zz_t h c20
                refine lv_iconst (v := (nI 1)) hx hb dX11_unit_223 rfl ?_
                refine lv_goto (tgt := 264) hx hb dX11_unit_224 (by decide) ?_
                obtain ⟨j0_, g_⟩ := Prod.mk.inj (Option.some.inj h)
                obtain ⟨j1_, g_⟩ := Prod.mk.inj g_
                obtain ⟨j2_, g_⟩ := Prod.mk.inj g_
                have j3_ := g_
                subst j0_
                subst j1_
                subst j2_
                subst j3_
                exact W.zret (v := (nI 1)) hx hb hr rfl (fun t ht hW => ⟨⟨_, (), rfl, rfl, zPost.of hP hD hK ht hW [1, 2, 0] rfl rfl rfl⟩, hS.F ht⟩) hS.2.2 dX11_unit_264
          · have h := zz_t h c13
            refine lv_iconst (v := (nI 0)) hx hb dX11_unit_195 rfl ?_
            refine lv_goto (tgt := 208) hx hb dX11_unit_196 (by decide) ?_
            refine lv_istore (lv' := [(5, .int (nI 0)), (4, .int r9), (3, .int r6), (2, .int s0_j120), (1, .int r1), (0, .ref a_t)]) hx hb dX11_unit_208 hl (by decide) rfl (fun ls hl => ?_)
            refine lv_iload_n hx hb dX11_unit_210 rfl (lv_at hl 2 rfl) ?_
            refine lv_bipush (v := (nI 61)) hx hb dX11_unit_211 rfl ?_
            refine lv_icmp_ne (tgt := 231) hx hb dX11_unit_213 (by decide) (fun c21 => ?_) (fun c21 => ?_)
            · have h := zz_f h c21
              refine lv_iload_n hx hb dX11_unit_231 rfl (lv_at hl 2 rfl) ?_
              refine lv_bipush (v := (nI 60)) hx hb dX11_unit_232 rfl ?_
              refine lv_icmp_ne (tgt := 252) hx hb dX11_unit_234 (by decide) (fun c22 => ?_) (fun c22 => ?_)
              · have h := zz_f h c22
                refine lv_iload hx hb dX11_unit_252 (lv_at hl 0 rfl) ?_
                refine lv_iload hx hb dX11_unit_254 (lv_at hl 1 rfl) ?_
                refine lv_icmp_le (tgt := 263) hx hb dX11_unit_256 (by decide) (fun c23 => ?_) (fun c23 => ?_)
                · have h := zz_t h c23
                  refine lv_iconst (v := (nI 0)) hx hb dX11_unit_263 rfl ?_
                  obtain ⟨j0_, g_⟩ := Prod.mk.inj (Option.some.inj h)
                  obtain ⟨j1_, g_⟩ := Prod.mk.inj g_
                  obtain ⟨j2_, g_⟩ := Prod.mk.inj g_
                  have j3_ := g_
                  subst j0_
                  subst j1_
                  subst j2_
                  subst j3_
                  exact W.zret (v := (nI 0)) hx hb hr rfl (fun t ht hW => ⟨⟨_, (), rfl, rfl, zPost.of hP hD hK ht hW [1, 0, 2] rfl rfl rfl⟩, hS.F ht⟩) hS.2.2 dX11_unit_264
                · have h := zz_f h c23
                  refine lv_iconst (v := (nI 1)) hx hb dX11_unit_259 rfl ?_
                  refine lv_goto (tgt := 264) hx hb dX11_unit_260 (by decide) ?_
                  obtain ⟨j0_, g_⟩ := Prod.mk.inj (Option.some.inj h)
                  obtain ⟨j1_, g_⟩ := Prod.mk.inj g_
                  obtain ⟨j2_, g_⟩ := Prod.mk.inj g_
                  have j3_ := g_
                  subst j0_
                  subst j1_
                  subst j2_
                  subst j3_
                  exact W.zret (v := (nI 1)) hx hb hr rfl (fun t ht hW => ⟨⟨_, (), rfl, rfl, zPost.of hP hD hK ht hW [1, 0, 2] rfl rfl rfl⟩, hS.F ht⟩) hS.2.2 dX11_unit_264
              · have h := zz_t h c22
                refine lv_iload hx hb dX11_unit_237 (lv_at hl 0 rfl) ?_
                refine lv_iload hx hb dX11_unit_239 (lv_at hl 1 rfl) ?_
                refine lv_icmp_ge (tgt := 248) hx hb dX11_unit_241 (by decide) (fun c24 => ?_) (fun c24 => ?_)
                · have h := zz_t h c24
                  refine lv_iconst (v := (nI 0)) hx hb dX11_unit_248 rfl ?_
                  refine lv_goto (tgt := 264) hx hb dX11_unit_249 (by decide) ?_
                  obtain ⟨j0_, g_⟩ := Prod.mk.inj (Option.some.inj h)
                  obtain ⟨j1_, g_⟩ := Prod.mk.inj g_
                  obtain ⟨j2_, g_⟩ := Prod.mk.inj g_
                  have j3_ := g_
                  subst j0_
                  subst j1_
                  subst j2_
                  subst j3_
                  exact W.zret (v := (nI 0)) hx hb hr rfl (fun t ht hW => ⟨⟨_, (), rfl, rfl, zPost.of hP hD hK ht hW [1, 0, 2] rfl rfl rfl⟩, hS.F ht⟩) hS.2.2 dX11_unit_264
                · have h := zz_f h c24
                  refine lv_iconst (v := (nI 1)) hx hb dX11_unit_244 rfl ?_
                  refine lv_goto (tgt := 264) hx hb dX11_unit_245 (by decide) ?_
                  obtain ⟨j0_, g_⟩ := Prod.mk.inj (Option.some.inj h)
                  obtain ⟨j1_, g_⟩ := Prod.mk.inj g_
                  obtain ⟨j2_, g_⟩ := Prod.mk.inj g_
                  have j3_ := g_
                  subst j0_
                  subst j1_
                  subst j2_
                  subst j3_
                  exact W.zret (v := (nI 1)) hx hb hr rfl (fun t ht hW => ⟨⟨_, (), rfl, rfl, zPost.of hP hD hK ht hW [1, 0, 2] rfl rfl rfl⟩, hS.F ht⟩) hS.2.2 dX11_unit_264
            · have h := zz_t h c21
              refine lv_iload hx hb dX11_unit_216 (lv_at hl 0 rfl) ?_
              refine lv_iload hx hb dX11_unit_218 (lv_at hl 1 rfl) ?_
              refine lv_icmp_ne (tgt := 227) hx hb dX11_unit_220 (by decide) (fun c25 => ?_) (fun c25 => ?_)
              · have h := zz_f h c25
                refine lv_iconst (v := (nI 0)) hx hb dX11_unit_227 rfl ?_
                refine lv_goto (tgt := 264) hx hb dX11_unit_228 (by decide) ?_
                obtain ⟨j0_, g_⟩ := Prod.mk.inj (Option.some.inj h)
                obtain ⟨j1_, g_⟩ := Prod.mk.inj g_
                obtain ⟨j2_, g_⟩ := Prod.mk.inj g_
                have j3_ := g_
                subst j0_
                subst j1_
                subst j2_
                subst j3_
                exact W.zret (v := (nI 0)) hx hb hr rfl (fun t ht hW => ⟨⟨_, (), rfl, rfl, zPost.of hP hD hK ht hW [1, 0, 2] rfl rfl rfl⟩, hS.F ht⟩) hS.2.2 dX11_unit_264
              · have h := zz_t h c25
                refine lv_iconst (v := (nI 1)) hx hb dX11_unit_223 rfl ?_
                refine lv_goto (tgt := 264) hx hb dX11_unit_224 (by decide) ?_
                obtain ⟨j0_, g_⟩ := Prod.mk.inj (Option.some.inj h)
                obtain ⟨j1_, g_⟩ := Prod.mk.inj g_
                obtain ⟨j2_, g_⟩ := Prod.mk.inj g_
                have j3_ := g_
                subst j0_
                subst j1_
                subst j2_
                subst j3_
                exact W.zret (v := (nI 1)) hx hb hr rfl (fun t ht hW => ⟨⟨_, (), rfl, rfl, zPost.of hP hD hK ht hW [1, 0, 2] rfl rfl rfl⟩, hS.F ht⟩) hS.2.2 dX11_unit_264
        refine lv_icmp_eq (tgt := 171) hx hb dX11_unit_150 (by decide) (fun c26 => ?_) (fun c26 => ?_)
        · have h := zz_t h c26
          exact J171  _ _ _ h (hP.sub [0, 1, 2] rfl) (hD.sub [0, 1, 2] rfl rfl) hS (lv_sub hl [0, 1, 2, 3] rfl)
        · have h := zz_f h c26
          refine lv_iload_n hx hb dX11_unit_153 rfl (lv_at hl 0 rfl) ?_
          refine lv_bipush (v := (nI 60)) hx hb dX11_unit_154 rfl ?_
          refine lv_icmp_eq (tgt := 171) hx hb dX11_unit_156 (by decide) (fun c27 => ?_) (fun c27 => ?_)
          · have h := zz_t h c27
            exact J171  _ _ _ h (hP.sub [0, 1, 2] rfl) (hD.sub [0, 1, 2] rfl rfl) hS (lv_sub hl [0, 1, 2, 3] rfl)
          · have h := zz_f h c27
            refine lv_iload_n hx hb dX11_unit_159 rfl (lv_at hl 0 rfl) ?_
            refine lv_bipush (v := (nI 62)) hx hb dX11_unit_160 rfl ?_
            refine lv_icmp_eq (tgt := 171) hx hb dX11_unit_162 (by decide) (fun c28 => ?_) (fun c28 => ?_)
            · have h := zz_t h c28
              exact J171  _ _ _ h (hP.sub [0, 1, 2] rfl) (hD.sub [0, 1, 2] rfl rfl) hS (lv_sub hl [0, 1, 2, 3] rfl)
            · have h := zz_f h c28
              refine lv_aload_n hx hb dX11_unit_165 rfl (lv_at hl 3 rfl) ?_
              obtain ⟨t_fault_r29, e30, h⟩ := zz_b h
              refine zVv (As := []) (rest := []) (C := RX11) (wr := [(a_t_now, .inl (cI, 1562, .inl t_now)), (a_t_text, .inl (cB, 200, .inl t_text))]) [1] [0, 2] 0 ⟨hx, hb, hml, hown, hts⟩ (mX11_wrong l D cB cI cZ a_t a_t_now a_t_kept a_t_text a_t_passing a_t_order a_t_times t_thrown t_isKept t_length t_at_r7 t_fault t_open t_asked t_byGun t_prizeMost t_listed H.size t_fault_r29 e30) (cwV 0 hts gX11_unit_X11_wrong rfl rfl rfl (by decide +kernel) ⟨Nat.le_of_ble_eq_true rfl, Nat.le_of_ble_eq_true rfl⟩) hK hN hZ hP hD hS hA rfl rfl rfl rfl rfl rfl rfl rfl hl.1 rfl (lv_room (Nat.le_of_ble_eq_true rfl)) dX11_unit_166 ⟨Nat.le_of_ble_eq_true rfl, Nat.le_of_ble_eq_true rfl⟩ (fun H locs hP hD hS => ?_)
              have hP : va_P D vwCl [(a_t_now, .inl (cI, 1562, .inl t_now)), (a_t_text, .inl (cB, 200, .inl t_text)), (a_t, .inr (11, [.int t_thrown, .ref a_t_now, .ref a_t_kept, .int t_isKept, .ref a_t_text, .int t_length, .ref a_t_passing, .int t_at_r7, .int t_fault_r29, .int t_open, .int t_asked, .int t_byGun, .int t_prizeMost, .ref a_t_order, .ref a_t_times, .int t_listed]))] H := hP
              have hD : va_D A [(a_t_now, .inl (cI, 1562, .inl t_now)), (a_t_text, .inl (cB, 200, .inl t_text)), (a_t, .inr (11, [.int t_thrown, .ref a_t_now, .ref a_t_kept, .int t_isKept, .ref a_t_text, .int t_length, .ref a_t_passing, .int t_at_r7, .int t_fault_r29, .int t_open, .int t_asked, .int t_byGun, .int t_prizeMost, .ref a_t_order, .ref a_t_times, .int t_listed]))] := hD
              refine lv_iconst (v := (nI 0)) hx hb dX11_unit_169 rfl ?_
              obtain ⟨j0_, g_⟩ := Prod.mk.inj (Option.some.inj h)
              obtain ⟨j1_, g_⟩ := Prod.mk.inj g_
              obtain ⟨j2_, g_⟩ := Prod.mk.inj g_
              have j3_ := g_
              subst j0_
              subst j1_
              subst j2_
              subst j3_
              exact W.zret (v := (nI 0)) hx hb hr rfl (fun t ht hW => ⟨⟨_, (), rfl, rfl, zPost.of hP hD hK ht hW [2, 0, 1] rfl rfl rfl⟩, hS.F ht⟩) hS.2.2 dX11_unit_170
      · have h := zz_t h c5
        refine lv_aload_n hx hb dX11_unit_126 rfl (lv_at hl 2 rfl) ?_
        obtain ⟨t_fault_r31, e32, h⟩ := zz_b h
        refine zVv (As := []) (rest := []) (C := RX11) (wr := [(a_t_now, .inl (cI, 1562, .inl t_now)), (a_t_text, .inl (cB, 200, .inl t_text))]) [1] [0, 2] 0 ⟨hx, hb, hml, hown, hts⟩ (mX11_wrong l D cB cI cZ a_t a_t_now a_t_kept a_t_text a_t_passing a_t_order a_t_times t_thrown t_isKept t_length t_at_r2 t_fault t_open t_asked t_byGun t_prizeMost t_listed H.size t_fault_r31 e32) (cwV 0 hts gX11_unit_X11_wrong rfl rfl rfl (by decide +kernel) ⟨Nat.le_of_ble_eq_true rfl, Nat.le_of_ble_eq_true rfl⟩) hK hN hZ hP hD hS hA rfl rfl rfl rfl rfl rfl rfl rfl hl.1 rfl (lv_room (Nat.le_of_ble_eq_true rfl)) dX11_unit_127 ⟨Nat.le_of_ble_eq_true rfl, Nat.le_of_ble_eq_true rfl⟩ (fun H locs hP hD hS => ?_)
        have hP : va_P D vwCl [(a_t_now, .inl (cI, 1562, .inl t_now)), (a_t_text, .inl (cB, 200, .inl t_text)), (a_t, .inr (11, [.int t_thrown, .ref a_t_now, .ref a_t_kept, .int t_isKept, .ref a_t_text, .int t_length, .ref a_t_passing, .int t_at_r2, .int t_fault_r31, .int t_open, .int t_asked, .int t_byGun, .int t_prizeMost, .ref a_t_order, .ref a_t_times, .int t_listed]))] H := hP
        have hD : va_D A [(a_t_now, .inl (cI, 1562, .inl t_now)), (a_t_text, .inl (cB, 200, .inl t_text)), (a_t, .inr (11, [.int t_thrown, .ref a_t_now, .ref a_t_kept, .int t_isKept, .ref a_t_text, .int t_length, .ref a_t_passing, .int t_at_r2, .int t_fault_r31, .int t_open, .int t_asked, .int t_byGun, .int t_prizeMost, .ref a_t_order, .ref a_t_times, .int t_listed]))] := hD
        refine lv_iconst (v := (nI 0)) hx hb dX11_unit_130 rfl ?_
        obtain ⟨j0_, g_⟩ := Prod.mk.inj (Option.some.inj h)
        obtain ⟨j1_, g_⟩ := Prod.mk.inj g_
        obtain ⟨j2_, g_⟩ := Prod.mk.inj g_
        have j3_ := g_
        subst j0_
        subst j1_
        subst j2_
        subst j3_
        exact W.zret (v := (nI 0)) hx hb hr rfl (fun t ht hW => ⟨⟨_, (), rfl, rfl, zPost.of hP hD hK ht hW [2, 0, 1] rfl rfl rfl⟩, hS.F ht⟩) hS.2.2 dX11_unit_131
    refine lv_icmp_ne (tgt := 79) hx hb dX11_unit_72 (by decide) (fun c33 => ?_) (fun c33 => ?_)
    · have h := zz_f h c33
      refine lv_iload_n hx hb dX11_unit_79 rfl (lv_at hl 0 rfl) ?_
      refine lv_bipush (v := (nI 121)) hx hb dX11_unit_80 rfl ?_
      refine lv_icmp_ne (tgt := 89) hx hb dX11_unit_82 (by decide) (fun c34 => ?_) (fun c34 => ?_)
      · have h := zz_f h c34
        refine lv_iload_n hx hb dX11_unit_89 rfl (lv_at hl 0 rfl) ?_
        refine lv_bipush (v := (nI 116)) hx hb dX11_unit_90 rfl ?_
        refine lv_icmp_ne (tgt := 99) hx hb dX11_unit_92 (by decide) (fun c35 => ?_) (fun c35 => ?_)
        · have h := zz_f h c35
          refine lv_iload_n hx hb dX11_unit_99 rfl (lv_at hl 0 rfl) ?_
          refine lv_bipush (v := (nI 112)) hx hb dX11_unit_100 rfl ?_
          refine lv_icmp_ne (tgt := 109) hx hb dX11_unit_102 (by decide) (fun c36 => ?_) (fun c36 => ?_)
          · have h := zz_f h c36
            refine lv_iload_n hx hb dX11_unit_109 rfl (lv_at hl 0 rfl) ?_
            refine lv_bipush (v := (nI 107)) hx hb dX11_unit_110 rfl ?_
            refine lv_icmp_ne (tgt := 119) hx hb dX11_unit_112 (by decide) (fun c37 => ?_) (fun c37 => ?_)
            · have h := zz_f h c37
              refine lv_iconst (v := (-1 : Int32)) hx hb dX11_unit_119 rfl ?_
              exact J120 (-1 : Int32) _ _ _ h (hP.sub [0, 1, 2] rfl) (hD.sub [0, 1, 2] rfl rfl) hS (lv_sub hl [0, 1] rfl)
            · have h := zz_t h c37
              refine lv_iconst (v := (nI 0)) hx hb dX11_unit_115 rfl ?_
              refine lv_goto (tgt := 120) hx hb dX11_unit_116 (by decide) ?_
              exact J120 (nI 0) _ _ _ h (hP.sub [0, 1, 2] rfl) (hD.sub [0, 1, 2] rfl rfl) hS (lv_sub hl [0, 1] rfl)
          · have h := zz_t h c36
            refine lv_iconst (v := (nI 5)) hx hb dX11_unit_105 rfl ?_
            refine lv_goto (tgt := 120) hx hb dX11_unit_106 (by decide) ?_
            exact J120 (nI 5) _ _ _ h (hP.sub [0, 1, 2] rfl) (hD.sub [0, 1, 2] rfl rfl) hS (lv_sub hl [0, 1] rfl)
        · have h := zz_t h c35
          refine lv_iconst (v := (nI 4)) hx hb dX11_unit_95 rfl ?_
          refine lv_goto (tgt := 120) hx hb dX11_unit_96 (by decide) ?_
          exact J120 (nI 4) _ _ _ h (hP.sub [0, 1, 2] rfl) (hD.sub [0, 1, 2] rfl rfl) hS (lv_sub hl [0, 1] rfl)
      · have h := zz_t h c34
        refine lv_iconst (v := (nI 2)) hx hb dX11_unit_85 rfl ?_
        refine lv_goto (tgt := 120) hx hb dX11_unit_86 (by decide) ?_
        exact J120 (nI 2) _ _ _ h (hP.sub [0, 1, 2] rfl) (hD.sub [0, 1, 2] rfl rfl) hS (lv_sub hl [0, 1] rfl)
    · have h := zz_t h c33
      refine lv_iconst (v := (nI 3)) hx hb dX11_unit_75 rfl ?_
      refine lv_goto (tgt := 120) hx hb dX11_unit_76 (by decide) ?_
      exact J120 (nI 3) _ _ _ h (hP.sub [0, 1, 2] rfl) (hD.sub [0, 1, 2] rfl rfl) hS (lv_sub hl [0, 1] rfl)
  · have h := zz_t h c4
    refine lv_aload_n hx hb dX11_unit_11 rfl (lv_at hl 1 rfl) ?_
    refine va_get (D := D) (ci := 11) (C := RX11) (T := TX11) (N := 16) hx hb hts qX11_unit_X11 hown hK hP 1 rfl rfl 9 (by decide) (hts _ kX11_unit_3) (fun _ h9 => h9) rfl dX11_unit_12 ?_
    refine lv_bipush (v := (nI 8)) hx hb dX11_unit_15 rfl ?_
    refine lv_icmp_ne (tgt := 26) hx hb dX11_unit_17 (by decide) (fun c38 => ?_) (fun c38 => ?_)
    · have h := zz_f h c38
      refine lv_aload_n hx hb dX11_unit_26 rfl (lv_at hl 1 rfl) ?_
      refine lv_dup hx hb dX11_unit_27 rfl ?_
      refine va_get (D := D) (ci := 11) (C := RX11) (T := TX11) (N := 16) hx hb hts qX11_unit_X11 hown hK hP 1 rfl rfl 9 (by decide) (hts _ kX11_unit_3) (fun _ h9 => h9) rfl dX11_unit_28 ?_
      refine lv_iconst (v := (nI 1)) hx hb dX11_unit_31 rfl ?_
      refine lv_iadd hx hb dX11_unit_32 ?_
      refine va_put (D := D) (ci := 11) (ty := .int) (C := RX11) (T := TX11) (N := 16) hx hb hts qX11_unit_X11 tyX11 tyX11_ok nmX11 hown hK hP hD hS 1 rfl rfl 9 (by decide) (hts _ kX11_unit_3) (fun _ h9 => h9) rfl (by decide +kernel) rfl (by first | rfl | exact zz_fit) (Nat.le_of_ble_eq_true rfl) dX11_unit_33 (fun H locs hP hD hS => ?_)
      have hP : va_P D vwCl [(a_t_now, .inl (cI, 1562, .inl t_now)), (a_t, .inr (11, [.int t_thrown, .ref a_t_now, .ref a_t_kept, .int t_isKept, .ref a_t_text, .int t_length, .ref a_t_passing, .int t_at_r2, .int t_fault, .int (t_open + (nI 1)), .int t_asked, .int t_byGun, .int t_prizeMost, .ref a_t_order, .ref a_t_times, .int t_listed])), (a_t_text, .inl (cB, 200, .inl t_text))] H := hP
      have hD : va_D A [(a_t_now, .inl (cI, 1562, .inl t_now)), (a_t, .inr (11, [.int t_thrown, .ref a_t_now, .ref a_t_kept, .int t_isKept, .ref a_t_text, .int t_length, .ref a_t_passing, .int t_at_r2, .int t_fault, .int (t_open + (nI 1)), .int t_asked, .int t_byGun, .int t_prizeMost, .ref a_t_order, .ref a_t_times, .int t_listed])), (a_t_text, .inl (cB, 200, .inl t_text))] := hD
      refine lv_aload_n hx hb dX11_unit_36 rfl (lv_at hl 1 rfl) ?_
      refine lv_dup hx hb dX11_unit_37 rfl ?_
      refine va_get (D := D) (ci := 11) (C := RX11) (T := TX11) (N := 16) hx hb hts qX11_unit_X11 hown hK hP 1 rfl rfl 7 (by decide) (hts _ kX11_unit_0) (fun _ h9 => h9) rfl dX11_unit_38 ?_
      refine lv_iconst (v := (nI 1)) hx hb dX11_unit_41 rfl ?_
      refine lv_iadd hx hb dX11_unit_42 ?_
      refine va_put (D := D) (ci := 11) (ty := .int) (C := RX11) (T := TX11) (N := 16) hx hb hts qX11_unit_X11 tyX11 tyX11_ok nmX11 hown hK hP hD hS 1 rfl rfl 7 (by decide) (hts _ kX11_unit_0) (fun _ h9 => h9) rfl (by decide +kernel) rfl (by first | rfl | exact zz_fit) (Nat.le_of_ble_eq_true rfl) dX11_unit_43 (fun H locs hP hD hS => ?_)
      have hP : va_P D vwCl [(a_t_now, .inl (cI, 1562, .inl t_now)), (a_t, .inr (11, [.int t_thrown, .ref a_t_now, .ref a_t_kept, .int t_isKept, .ref a_t_text, .int t_length, .ref a_t_passing, .int (t_at_r2 + (nI 1)), .int t_fault, .int (t_open + (nI 1)), .int t_asked, .int t_byGun, .int t_prizeMost, .ref a_t_order, .ref a_t_times, .int t_listed])), (a_t_text, .inl (cB, 200, .inl t_text))] H := hP
      have hD : va_D A [(a_t_now, .inl (cI, 1562, .inl t_now)), (a_t, .inr (11, [.int t_thrown, .ref a_t_now, .ref a_t_kept, .int t_isKept, .ref a_t_text, .int t_length, .ref a_t_passing, .int (t_at_r2 + (nI 1)), .int t_fault, .int (t_open + (nI 1)), .int t_asked, .int t_byGun, .int t_prizeMost, .ref a_t_order, .ref a_t_times, .int t_listed])), (a_t_text, .inl (cB, 200, .inl t_text))] := hD
      refine lv_aload_n hx hb dX11_unit_46 rfl (lv_at hl 1 rfl) ?_
      obtain ⟨⟨b39, t_at_r40, t_fault_r41, t_open_r42⟩, e43, h⟩ := zz_b h
      dsimp only at h
      refine zVi (As := []) (rest := []) (C := RX11) (wr := []) [1, 0, 2] [] 0 ⟨hx, hb, hml, hown, hts⟩ (mX11_tests_2 l D cB cI cZ a_t a_t_now a_t_kept a_t_text a_t_passing a_t_order a_t_times t_thrown t_isKept t_length (t_at_r2 + (nI 1)) t_fault (t_open + (nI 1)) t_asked t_byGun t_prizeMost t_listed t_now t_text H.size N b39 t_at_r40 t_fault_r41 t_open_r42 (hT ▸ e43)) (cwV 0 hts gX11_unit_X11_tests rfl rfl rfl (by decide +kernel) ⟨Nat.le_of_ble_eq_true rfl, Nat.le_of_ble_eq_true rfl⟩) hK hN hZ hP hD hS hA rfl rfl rfl rfl rfl rfl rfl rfl hl.1 rfl (lv_room (Nat.le_of_ble_eq_true rfl)) dX11_unit_47 ⟨Nat.le_of_ble_eq_true rfl, Nat.le_of_ble_eq_true rfl⟩ (fun H locs hP hD hS => ?_)
      have hP : va_P D vwCl [(a_t, .inr (11, [.int t_thrown, .ref a_t_now, .ref a_t_kept, .int t_isKept, .ref a_t_text, .int t_length, .ref a_t_passing, .int t_at_r40, .int t_fault_r41, .int t_open_r42, .int t_asked, .int t_byGun, .int t_prizeMost, .ref a_t_order, .ref a_t_times, .int t_listed])), (a_t_now, .inl (cI, 1562, .inl t_now)), (a_t_text, .inl (cB, 200, .inl t_text))] H := hP
      have hD : va_D A [(a_t, .inr (11, [.int t_thrown, .ref a_t_now, .ref a_t_kept, .int t_isKept, .ref a_t_text, .int t_length, .ref a_t_passing, .int t_at_r40, .int t_fault_r41, .int t_open_r42, .int t_asked, .int t_byGun, .int t_prizeMost, .ref a_t_order, .ref a_t_times, .int t_listed])), (a_t_now, .inl (cI, 1562, .inl t_now)), (a_t_text, .inl (cB, 200, .inl t_text))] := hD
      refine lv_istore_n (lv' := [(2, .int (zb b39)), (1, .int r1), (0, .ref a_t)]) hx hb dX11_unit_50 rfl hl (by decide) rfl (fun ls hl => ?_)
      refine lv_aload_n hx hb dX11_unit_51 rfl (lv_at hl 2 rfl) ?_
      refine lv_bipush (v := (nI 41)) hx hb dX11_unit_52 rfl ?_
      obtain ⟨⟨t_at_r44, t_fault_r45⟩, e46, h⟩ := zz_b h
      dsimp only at h
      refine zVv (As := [.int (nI 41)]) (rest := []) (C := RX11) (wr := [(a_t_now, .inl (cI, 1562, .inl t_now))]) [0, 2] [1] 0 ⟨hx, hb, hml, hown, hts⟩ (mX11_sign l D cB cI cZ a_t a_t_now a_t_kept a_t_text a_t_passing a_t_order a_t_times t_thrown t_isKept t_length t_at_r40 t_fault_r41 t_open_r42 t_asked t_byGun t_prizeMost t_listed t_text H.size (nI 41) N t_at_r44 t_fault_r45 e46) (cwV 1 hts gX11_unit_X11_sign rfl rfl rfl (by decide +kernel) ⟨Nat.le_of_ble_eq_true rfl, Nat.le_of_ble_eq_true rfl⟩) hK hN hZ hP hD hS hA rfl rfl rfl rfl rfl rfl rfl rfl hl.1 rfl (lv_room (Nat.le_of_ble_eq_true rfl)) dX11_unit_54 ⟨Nat.le_of_ble_eq_true rfl, Nat.le_of_ble_eq_true rfl⟩ (fun H locs hP hD hS => ?_)
      have hP : va_P D vwCl [(a_t_now, .inl (cI, 1562, .inl t_now)), (a_t, .inr (11, [.int t_thrown, .ref a_t_now, .ref a_t_kept, .int t_isKept, .ref a_t_text, .int t_length, .ref a_t_passing, .int t_at_r44, .int t_fault_r45, .int t_open_r42, .int t_asked, .int t_byGun, .int t_prizeMost, .ref a_t_order, .ref a_t_times, .int t_listed])), (a_t_text, .inl (cB, 200, .inl t_text))] H := hP
      have hD : va_D A [(a_t_now, .inl (cI, 1562, .inl t_now)), (a_t, .inr (11, [.int t_thrown, .ref a_t_now, .ref a_t_kept, .int t_isKept, .ref a_t_text, .int t_length, .ref a_t_passing, .int t_at_r44, .int t_fault_r45, .int t_open_r42, .int t_asked, .int t_byGun, .int t_prizeMost, .ref a_t_order, .ref a_t_times, .int t_listed])), (a_t_text, .inl (cB, 200, .inl t_text))] := hD
      refine lv_aload_n hx hb dX11_unit_57 rfl (lv_at hl 2 rfl) ?_
      refine lv_dup hx hb dX11_unit_58 rfl ?_
      refine va_get (D := D) (ci := 11) (C := RX11) (T := TX11) (N := 16) hx hb hts qX11_unit_X11 hown hK hP 1 rfl rfl 9 (by decide) (hts _ kX11_unit_3) (fun _ h9 => h9) rfl dX11_unit_59 ?_
      refine lv_iconst (v := (nI 1)) hx hb dX11_unit_62 rfl ?_
      refine lv_isub hx hb dX11_unit_63 ?_
      refine va_put (D := D) (ci := 11) (ty := .int) (C := RX11) (T := TX11) (N := 16) hx hb hts qX11_unit_X11 tyX11 tyX11_ok nmX11 hown hK hP hD hS 1 rfl rfl 9 (by decide) (hts _ kX11_unit_3) (fun _ h9 => h9) rfl (by decide +kernel) rfl (by first | rfl | exact zz_fit) (Nat.le_of_ble_eq_true rfl) dX11_unit_64 (fun H locs hP hD hS => ?_)
      have hP : va_P D vwCl [(a_t_now, .inl (cI, 1562, .inl t_now)), (a_t, .inr (11, [.int t_thrown, .ref a_t_now, .ref a_t_kept, .int t_isKept, .ref a_t_text, .int t_length, .ref a_t_passing, .int t_at_r44, .int t_fault_r45, .int (t_open_r42 - (nI 1)), .int t_asked, .int t_byGun, .int t_prizeMost, .ref a_t_order, .ref a_t_times, .int t_listed])), (a_t_text, .inl (cB, 200, .inl t_text))] H := hP
      have hD : va_D A [(a_t_now, .inl (cI, 1562, .inl t_now)), (a_t, .inr (11, [.int t_thrown, .ref a_t_now, .ref a_t_kept, .int t_isKept, .ref a_t_text, .int t_length, .ref a_t_passing, .int t_at_r44, .int t_fault_r45, .int (t_open_r42 - (nI 1)), .int t_asked, .int t_byGun, .int t_prizeMost, .ref a_t_order, .ref a_t_times, .int t_listed])), (a_t_text, .inl (cB, 200, .inl t_text))] := hD
      refine lv_iload_n hx hb dX11_unit_67 rfl (lv_at hl 0 rfl) ?_
      obtain ⟨j0_, g_⟩ := Prod.mk.inj (Option.some.inj h)
      obtain ⟨j1_, g_⟩ := Prod.mk.inj g_
      obtain ⟨j2_, g_⟩ := Prod.mk.inj g_
      have j3_ := g_
      subst j0_
      subst j1_
      subst j2_
      subst j3_
      exact W.zret (v := (zb b39)) hx hb hr zz_n (fun t ht hW => ⟨⟨_, (), rfl, rfl, zPost.of hP hD hK ht hW [1, 0, 2] rfl rfl rfl⟩, hS.F ht⟩) hS.2.2 dX11_unit_68
    · have h := zz_t h c38
      refine lv_aload_n hx hb dX11_unit_20 rfl (lv_at hl 1 rfl) ?_
      obtain ⟨t_fault_r47, e48, h⟩ := zz_b h
      refine zVv (As := []) (rest := []) (C := RX11) (wr := [(a_t_now, .inl (cI, 1562, .inl t_now)), (a_t_text, .inl (cB, 200, .inl t_text))]) [1] [0, 2] 0 ⟨hx, hb, hml, hown, hts⟩ (mX11_wrong l D cB cI cZ a_t a_t_now a_t_kept a_t_text a_t_passing a_t_order a_t_times t_thrown t_isKept t_length t_at_r2 t_fault t_open t_asked t_byGun t_prizeMost t_listed H.size t_fault_r47 e48) (cwV 0 hts gX11_unit_X11_wrong rfl rfl rfl (by decide +kernel) ⟨Nat.le_of_ble_eq_true rfl, Nat.le_of_ble_eq_true rfl⟩) hK hN hZ hP hD hS hA rfl rfl rfl rfl rfl rfl rfl rfl hl.1 rfl (lv_room (Nat.le_of_ble_eq_true rfl)) dX11_unit_21 ⟨Nat.le_of_ble_eq_true rfl, Nat.le_of_ble_eq_true rfl⟩ (fun H locs hP hD hS => ?_)
      have hP : va_P D vwCl [(a_t_now, .inl (cI, 1562, .inl t_now)), (a_t_text, .inl (cB, 200, .inl t_text)), (a_t, .inr (11, [.int t_thrown, .ref a_t_now, .ref a_t_kept, .int t_isKept, .ref a_t_text, .int t_length, .ref a_t_passing, .int t_at_r2, .int t_fault_r47, .int t_open, .int t_asked, .int t_byGun, .int t_prizeMost, .ref a_t_order, .ref a_t_times, .int t_listed]))] H := hP
      have hD : va_D A [(a_t_now, .inl (cI, 1562, .inl t_now)), (a_t_text, .inl (cB, 200, .inl t_text)), (a_t, .inr (11, [.int t_thrown, .ref a_t_now, .ref a_t_kept, .int t_isKept, .ref a_t_text, .int t_length, .ref a_t_passing, .int t_at_r2, .int t_fault_r47, .int t_open, .int t_asked, .int t_byGun, .int t_prizeMost, .ref a_t_order, .ref a_t_times, .int t_listed]))] := hD
      refine lv_iconst (v := (nI 0)) hx hb dX11_unit_24 rfl ?_
      obtain ⟨j0_, g_⟩ := Prod.mk.inj (Option.some.inj h)
      obtain ⟨j1_, g_⟩ := Prod.mk.inj g_
      obtain ⟨j2_, g_⟩ := Prod.mk.inj g_
      have j3_ := g_
      subst j0_
      subst j1_
      subst j2_
      subst j3_
      exact W.zret (v := (nI 0)) hx hb hr rfl (fun t ht hW => ⟨⟨_, (), rfl, rfl, zPost.of hP hD hK ht hW [2, 0, 1] rfl rfl rfl⟩, hS.F ht⟩) hS.2.2 dX11_unit_25
set_option maxHeartbeats 4000000 in
set_option maxRecDepth 100000 in
theorem mX11_part_3 (l : Launch) (D : va_G) (cB cI cZ : ClassId) (a_t : Nat) (a_t_now : Nat) (a_t_kept : Nat) (a_t_text : Nat) (a_t_passing : Nat) (a_t_order : Nat) (a_t_times : Nat) (t_thrown : Int32) (t_isKept : Int32) (t_length : Int32) (t_at : Int32) (t_fault : Int32) (t_open : Int32) (t_asked : Int32) (t_byGun : Int32) (t_prizeMost : Int32) (t_listed : Int32) (t_now : Nat → Int32) (t_text : Nat → Int32) (sz : Nat) (N : Nat) (T : Int32 → Int32 → Int32 → Int32 → Int32 → (Nat → Int32) → (Nat → Int32) → Option (Bool × Int32 × Int32 × Int32)) (hT : T = fX11_testsD N 3) (b0 : Bool) (t_at' : Int32) (t_fault' : Int32) (t_open' : Int32) (h : fX11_part T N t_asked t_at t_fault t_length t_open t_now t_text = some (b0, t_at', t_fault', t_open')) : Met l yX11_part wsX11_part ({ frames := 12, cells := 0, slots := 0, locals := 274 } : Room) (va_Pc [.ref a_t] (zPre D (zT cB cI cZ) [(a_t, .inr (11, [.int t_thrown, .ref a_t_now, .ref a_t_kept, .int t_isKept, .ref a_t_text, .int t_length, .ref a_t_passing, .int t_at, .int t_fault, .int t_open, .int t_asked, .int t_byGun, .int t_prizeMost, .ref a_t_order, .ref a_t_times, .int t_listed])), (a_t_now, .inl (cI, 1562, .inl t_now)), (a_t_text, .inl (cB, 200, .inl t_text))] sz)) (zQi (zb b0) D (zT cB cI cZ) [(a_t, .inr (11, [.int t_thrown, .ref a_t_now, .ref a_t_kept, .int t_isKept, .ref a_t_text, .int t_length, .ref a_t_passing, .int t_at', .int t_fault', .int t_open', .int t_asked, .int t_byGun, .int t_prizeMost, .ref a_t_order, .ref a_t_times, .int t_listed])), (a_t_now, .inl (cI, 1562, .inl t_now)), (a_t_text, .inl (cB, 200, .inl t_text))] (va_A [(a_t, .inr (11, [.int t_thrown, .ref a_t_now, .ref a_t_kept, .int t_isKept, .ref a_t_text, .int t_length, .ref a_t_passing, .int t_at, .int t_fault, .int t_open, .int t_asked, .int t_byGun, .int t_prizeMost, .ref a_t_order, .ref a_t_times, .int t_listed])), (a_t_now, .inl (cI, 1562, .inl t_now)), (a_t_text, .inl (cB, 200, .inl t_text))] sz)) 0 0 (va_A [(a_t, .inr (11, [.int t_thrown, .ref a_t_now, .ref a_t_kept, .int t_isKept, .ref a_t_text, .int t_length, .ref a_t_passing, .int t_at, .int t_fault, .int t_open, .int t_asked, .int t_byGun, .int t_prizeMost, .ref a_t_order, .ref a_t_times, .int t_listed])), (a_t_now, .inl (cI, 1562, .inl t_now)), (a_t_text, .inl (cB, 200, .inl t_text))] sz) := by
  refine Met.ofW (cc := cX11_part) (maxL := 3) (ret := (some .boolean)) (by decide) rfl ?_
  intro p e s m args below meth c s₁ B hml hv
  obtain ⟨rfl, hsz, hP, hK, hN, hZ, hD0⟩ := hv
  have hx := B.exec
  have hb := B.bytes
  have hr := B.returns
  have hts := atoms_spec (ws := wsX11_part) B.pre
  have hown : s.vm.findClass RX11 = some m.cls := findClass_of_methodNamed B.named
  have hlocks := B.notSynchronized
  subst hsz
  have hD := hD0.self (sz := s.heap.size)
  generalize hAe : va_A [(a_t, .inr (11, [.int t_thrown, .ref a_t_now, .ref a_t_kept, .int t_isKept, .ref a_t_text, .int t_length, .ref a_t_passing, .int t_at, .int t_fault, .int t_open, .int t_asked, .int t_byGun, .int t_prizeMost, .ref a_t_order, .ref a_t_times, .int t_listed])), (a_t_now, .inl (cI, 1562, .inl t_now)), (a_t_text, .inl (cB, 200, .inl t_text))] s.heap.size = A at hD hZ ⊢
  have hA : ∀ q : Nat, s.heap.size ≤ q → A q := fun q h => by rw [← hAe]; exact Or.inr h
  have hS : va_S A s.heap s.heap [] := va_S.rf
  have hl := lv_entry ([.ref a_t]) (n := 3) (Nat.le_of_ble_eq_true rfl)
  rw [lg_entry_eq]
  generalize (lg_sl ([.ref a_t]) ++ List.replicate (3 - (lg_sl ([.ref a_t])).length) Slot.unset).toArray = ls at hl ⊢
  have hl : lv_has ls 3 [(0, .ref a_t)] := hl
  unfold fX11_part at h
  refine lv_aload_n hx hb dX11_part_0 rfl (lv_at hl 0 rfl) ?_
  obtain ⟨⟨b1, t_at_r2, t_fault_r3, t_open_r4⟩, e5, h⟩ := zz_b h
  dsimp only at h
  refine zVi (As := []) (rest := []) (C := RX11) (wr := []) [0, 1, 2] [] 0 ⟨hx, hb, hml, hown, hts⟩ (mX11_unit_3 l D cB cI cZ a_t a_t_now a_t_kept a_t_text a_t_passing a_t_order a_t_times t_thrown t_isKept t_length t_at t_fault t_open t_asked t_byGun t_prizeMost t_listed t_now t_text s.heap.size N T hT b1 t_at_r2 t_fault_r3 t_open_r4 e5) (cwV 0 hts gX11_part_X11_unit rfl rfl rfl (by decide +kernel) ⟨Nat.le_of_ble_eq_true rfl, Nat.le_of_ble_eq_true rfl⟩) hK hN hZ hP hD hS hA rfl rfl rfl rfl rfl rfl rfl rfl hl.1 rfl (lv_room (Nat.le_of_ble_eq_true rfl)) dX11_part_1 ⟨Nat.le_of_ble_eq_true rfl, Nat.le_of_ble_eq_true rfl⟩ (fun H locs hP hD hS => ?_)
  have hP : va_P D vwCl [(a_t, .inr (11, [.int t_thrown, .ref a_t_now, .ref a_t_kept, .int t_isKept, .ref a_t_text, .int t_length, .ref a_t_passing, .int t_at_r2, .int t_fault_r3, .int t_open_r4, .int t_asked, .int t_byGun, .int t_prizeMost, .ref a_t_order, .ref a_t_times, .int t_listed])), (a_t_now, .inl (cI, 1562, .inl t_now)), (a_t_text, .inl (cB, 200, .inl t_text))] H := hP
  have hD : va_D A [(a_t, .inr (11, [.int t_thrown, .ref a_t_now, .ref a_t_kept, .int t_isKept, .ref a_t_text, .int t_length, .ref a_t_passing, .int t_at_r2, .int t_fault_r3, .int t_open_r4, .int t_asked, .int t_byGun, .int t_prizeMost, .ref a_t_order, .ref a_t_times, .int t_listed])), (a_t_now, .inl (cI, 1562, .inl t_now)), (a_t_text, .inl (cB, 200, .inl t_text))] := hD
  refine lv_istore_n (lv' := [(1, .int (zb b1)), (0, .ref a_t)]) hx hb dX11_part_4 rfl hl (by decide) rfl (fun ls hl => ?_)
  have X5_53 : ∀ (v1_5 : Bool) (t_at_l5 : Int32) (t_fault_l5 : Int32) (t_open_l5 : Int32) (H : Heap) (locs : List Loc) (ls : Array Slot), some (v1_5, t_at_l5, t_fault_l5, t_open_l5) = some (b0, t_at', t_fault', t_open') → va_P D vwCl [(a_t, .inr (11, [.int t_thrown, .ref a_t_now, .ref a_t_kept, .int t_isKept, .ref a_t_text, .int t_length, .ref a_t_passing, .int t_at_l5, .int t_fault_l5, .int t_open_l5, .int t_asked, .int t_byGun, .int t_prizeMost, .ref a_t_order, .ref a_t_times, .int t_listed])), (a_t_now, .inl (cI, 1562, .inl t_now)), (a_t_text, .inl (cB, 200, .inl t_text))] H → va_D A [(a_t, .inr (11, [.int t_thrown, .ref a_t_now, .ref a_t_kept, .int t_isKept, .ref a_t_text, .int t_length, .ref a_t_passing, .int t_at_l5, .int t_fault_l5, .int t_open_l5, .int t_asked, .int t_byGun, .int t_prizeMost, .ref a_t_order, .ref a_t_times, .int t_listed])), (a_t_now, .inl (cI, 1562, .inl t_now)), (a_t_text, .inl (cB, 200, .inl t_text))] → va_S A s.heap H locs → lv_has ls 3 [(1, .int (zb v1_5)), (0, .ref a_t)] → W p l e (headSpec wsX11_part ({ frames := 12, cells := 0, slots := 0, locals := 274 } : Room)).room s m #[Value.ref a_t] below meth c H locs 0 0 (MQ below (zQi (zb b0) D (zT cB cI cZ) [(a_t, .inr (11, [.int t_thrown, .ref a_t_now, .ref a_t_kept, .int t_isKept, .ref a_t_text, .int t_length, .ref a_t_passing, .int t_at', .int t_fault', .int t_open', .int t_asked, .int t_byGun, .int t_prizeMost, .ref a_t_order, .ref a_t_times, .int t_listed])), (a_t_now, .inl (cI, 1562, .inl t_now)), (a_t_text, .inl (cB, 200, .inl t_text))] A) #[Value.ref a_t] s 0 0 A) (F0 m 53 ls []) := by
    intro v1_5 t_at_l5 t_fault_l5 t_open_l5 H locs ls h hP hD hS hl
    refine lv_iload_n hx hb dX11_part_53 rfl (lv_at hl 0 rfl) ?_
    obtain ⟨j0_, g_⟩ := Prod.mk.inj (Option.some.inj h)
    obtain ⟨j1_, g_⟩ := Prod.mk.inj g_
    obtain ⟨j2_, g_⟩ := Prod.mk.inj g_
    have j3_ := g_
    subst j0_
    subst j1_
    subst j2_
    subst j3_
    exact W.zret (v := (zb v1_5)) hx hb hr zz_n (fun t ht hW => ⟨⟨_, (), rfl, rfl, zPost.of hP hD hK ht hW [0, 1, 2] rfl rfl rfl⟩, hS.F ht⟩) hS.2.2 dX11_part_54
  have L5 : ∀ (n : Nat) (v1_5 : Bool) (t_at_l5 : Int32) (t_fault_l5 : Int32) (t_open_l5 : Int32) (H : Heap) (locs : List Loc) (ls : Array Slot), fX11_part_L5 N T t_length t_asked t_now t_text (fun (v1_5 : Bool) (t_at_l5 : Int32) (t_fault_l5 : Int32) (t_open_l5 : Int32) => some (v1_5, t_at_l5, t_fault_l5, t_open_l5)) n v1_5 t_at_l5 t_fault_l5 t_open_l5 = some (b0, t_at', t_fault', t_open') → va_P D vwCl [(a_t, .inr (11, [.int t_thrown, .ref a_t_now, .ref a_t_kept, .int t_isKept, .ref a_t_text, .int t_length, .ref a_t_passing, .int t_at_l5, .int t_fault_l5, .int t_open_l5, .int t_asked, .int t_byGun, .int t_prizeMost, .ref a_t_order, .ref a_t_times, .int t_listed])), (a_t_now, .inl (cI, 1562, .inl t_now)), (a_t_text, .inl (cB, 200, .inl t_text))] H → va_D A [(a_t, .inr (11, [.int t_thrown, .ref a_t_now, .ref a_t_kept, .int t_isKept, .ref a_t_text, .int t_length, .ref a_t_passing, .int t_at_l5, .int t_fault_l5, .int t_open_l5, .int t_asked, .int t_byGun, .int t_prizeMost, .ref a_t_order, .ref a_t_times, .int t_listed])), (a_t_now, .inl (cI, 1562, .inl t_now)), (a_t_text, .inl (cB, 200, .inl t_text))] → va_S A s.heap H locs → lv_has ls 3 [(1, .int (zb v1_5)), (0, .ref a_t)] → W p l e (headSpec wsX11_part ({ frames := 12, cells := 0, slots := 0, locals := 274 } : Room)).room s m #[Value.ref a_t] below meth c H locs 0 0 (MQ below (zQi (zb b0) D (zT cB cI cZ) [(a_t, .inr (11, [.int t_thrown, .ref a_t_now, .ref a_t_kept, .int t_isKept, .ref a_t_text, .int t_length, .ref a_t_passing, .int t_at', .int t_fault', .int t_open', .int t_asked, .int t_byGun, .int t_prizeMost, .ref a_t_order, .ref a_t_times, .int t_listed])), (a_t_now, .inl (cI, 1562, .inl t_now)), (a_t_text, .inl (cB, 200, .inl t_text))] A) #[Value.ref a_t] s 0 0 A) (F0 m 5 ls []) := by
    intro n
    induction n with
    | zero => intro _ _ _ _ H locs ls h hP hD hS hl; cases h
    | succ n5 ih5 =>
      intro v1_5 t_at_l5 t_fault_l5 t_open_l5 H locs ls h hP hD hS hl
      rw [fX11_part_L5.eq_2] at h
      refine lv_aload_n hx hb dX11_part_5 rfl (lv_at hl 1 rfl) ?_
      obtain ⟨b6, e7, h⟩ := zz_b h
      refine zVi (As := []) (rest := []) (C := RX11) (wr := [(a_t_now, .inl (cI, 1562, .inl t_now)), (a_t_text, .inl (cB, 200, .inl t_text))]) [0] [1, 2] 0 ⟨hx, hb, hml, hown, hts⟩ (mX11_isFine l D cB cI cZ a_t a_t_now a_t_kept a_t_text a_t_passing a_t_order a_t_times t_thrown t_isKept t_length t_at_l5 t_fault_l5 t_open_l5 t_asked t_byGun t_prizeMost t_listed H.size b6 e7) (cwV 0 hts gX11_part_X11_isFine rfl rfl rfl (by decide +kernel) ⟨Nat.le_of_ble_eq_true rfl, Nat.le_of_ble_eq_true rfl⟩) hK hN hZ hP hD hS hA rfl rfl rfl rfl rfl rfl rfl rfl hl.1 rfl (lv_room (Nat.le_of_ble_eq_true rfl)) dX11_part_6 ⟨Nat.le_of_ble_eq_true rfl, Nat.le_of_ble_eq_true rfl⟩ (fun H locs hP hD hS => ?_)
      have hP : va_P D vwCl [(a_t_now, .inl (cI, 1562, .inl t_now)), (a_t_text, .inl (cB, 200, .inl t_text)), (a_t, .inr (11, [.int t_thrown, .ref a_t_now, .ref a_t_kept, .int t_isKept, .ref a_t_text, .int t_length, .ref a_t_passing, .int t_at_l5, .int t_fault_l5, .int t_open_l5, .int t_asked, .int t_byGun, .int t_prizeMost, .ref a_t_order, .ref a_t_times, .int t_listed]))] H := hP
      have hD : va_D A [(a_t_now, .inl (cI, 1562, .inl t_now)), (a_t_text, .inl (cB, 200, .inl t_text)), (a_t, .inr (11, [.int t_thrown, .ref a_t_now, .ref a_t_kept, .int t_isKept, .ref a_t_text, .int t_length, .ref a_t_passing, .int t_at_l5, .int t_fault_l5, .int t_open_l5, .int t_asked, .int t_byGun, .int t_prizeMost, .ref a_t_order, .ref a_t_times, .int t_listed]))] := hD
      refine lv_if_eq (tgt := 53) hx hb dX11_part_9 (by decide) (fun c8 => ?_) (fun c8 => ?_)
      · have h := zz_t h c8
        exact X5_53 v1_5 t_at_l5 t_fault_l5 t_open_l5 _ _ _ h (hP.sub [2, 0, 1] rfl) (hD.sub [2, 0, 1] rfl rfl) hS (lv_sub hl [0, 1] rfl)
      · have h := zz_f h c8
        refine lv_aload_n hx hb dX11_part_12 rfl (lv_at hl 1 rfl) ?_
        obtain ⟨⟨r9, t_at_r10⟩, e11, h⟩ := zz_b h
        dsimp only at h
        refine zVi (As := []) (rest := []) (C := RX11) (wr := [(a_t_now, .inl (cI, 1562, .inl t_now))]) [2, 1] [0] 0 ⟨hx, hb, hml, hown, hts⟩ (mX11_look l D cB cI cZ a_t a_t_now a_t_kept a_t_text a_t_passing a_t_order a_t_times t_thrown t_isKept t_length t_at_l5 t_fault_l5 t_open_l5 t_asked t_byGun t_prizeMost t_listed t_text H.size N r9 t_at_r10 e11) (cwV 0 hts gX11_part_X11_look rfl rfl rfl (by decide +kernel) ⟨Nat.le_of_ble_eq_true rfl, Nat.le_of_ble_eq_true rfl⟩) hK hN hZ hP hD hS hA rfl rfl rfl rfl rfl rfl rfl rfl hl.1 rfl (lv_room (Nat.le_of_ble_eq_true rfl)) dX11_part_13 ⟨Nat.le_of_ble_eq_true rfl, Nat.le_of_ble_eq_true rfl⟩ (fun H locs hP hD hS => ?_)
        have hP : va_P D vwCl [(a_t_now, .inl (cI, 1562, .inl t_now)), (a_t, .inr (11, [.int t_thrown, .ref a_t_now, .ref a_t_kept, .int t_isKept, .ref a_t_text, .int t_length, .ref a_t_passing, .int t_at_r10, .int t_fault_l5, .int t_open_l5, .int t_asked, .int t_byGun, .int t_prizeMost, .ref a_t_order, .ref a_t_times, .int t_listed])), (a_t_text, .inl (cB, 200, .inl t_text))] H := hP
        have hD : va_D A [(a_t_now, .inl (cI, 1562, .inl t_now)), (a_t, .inr (11, [.int t_thrown, .ref a_t_now, .ref a_t_kept, .int t_isKept, .ref a_t_text, .int t_length, .ref a_t_passing, .int t_at_r10, .int t_fault_l5, .int t_open_l5, .int t_asked, .int t_byGun, .int t_prizeMost, .ref a_t_order, .ref a_t_times, .int t_listed])), (a_t_text, .inl (cB, 200, .inl t_text))] := hD
        refine lv_bipush (v := (nI 38)) hx hb dX11_part_16 rfl ?_
        refine lv_icmp_ne (tgt := 53) hx hb dX11_part_18 (by decide) (fun c12 => ?_) (fun c12 => ?_)
        · have h := zz_f h c12
          exact X5_53 v1_5 t_at_r10 t_fault_l5 t_open_l5 _ _ _ h (hP.sub [1, 0, 2] rfl) (hD.sub [1, 0, 2] rfl rfl) hS (lv_sub hl [0, 1] rfl)
        · have h := zz_t h c12
          refine lv_aload_n hx hb dX11_part_21 rfl (lv_at hl 1 rfl) ?_
          refine lv_dup hx hb dX11_part_22 rfl ?_
          refine va_get (D := D) (ci := 11) (C := RX11) (T := TX11) (N := 16) hx hb hts qX11_part_X11 hown hK hP 1 rfl rfl 7 (by decide) (hts _ kX11_part_0) (fun _ h9 => h9) rfl dX11_part_23 ?_
          refine lv_iconst (v := (nI 1)) hx hb dX11_part_26 rfl ?_
          refine lv_iadd hx hb dX11_part_27 ?_
          refine va_put (D := D) (ci := 11) (ty := .int) (C := RX11) (T := TX11) (N := 16) hx hb hts qX11_part_X11 tyX11 tyX11_ok nmX11 hown hK hP hD hS 1 rfl rfl 7 (by decide) (hts _ kX11_part_0) (fun _ h9 => h9) rfl (by decide +kernel) rfl (by first | rfl | exact zz_fit) (Nat.le_of_ble_eq_true rfl) dX11_part_28 (fun H locs hP hD hS => ?_)
          have hP : va_P D vwCl [(a_t_now, .inl (cI, 1562, .inl t_now)), (a_t, .inr (11, [.int t_thrown, .ref a_t_now, .ref a_t_kept, .int t_isKept, .ref a_t_text, .int t_length, .ref a_t_passing, .int (t_at_r10 + (nI 1)), .int t_fault_l5, .int t_open_l5, .int t_asked, .int t_byGun, .int t_prizeMost, .ref a_t_order, .ref a_t_times, .int t_listed])), (a_t_text, .inl (cB, 200, .inl t_text))] H := hP
          have hD : va_D A [(a_t_now, .inl (cI, 1562, .inl t_now)), (a_t, .inr (11, [.int t_thrown, .ref a_t_now, .ref a_t_kept, .int t_isKept, .ref a_t_text, .int t_length, .ref a_t_passing, .int (t_at_r10 + (nI 1)), .int t_fault_l5, .int t_open_l5, .int t_asked, .int t_byGun, .int t_prizeMost, .ref a_t_order, .ref a_t_times, .int t_listed])), (a_t_text, .inl (cB, 200, .inl t_text))] := hD
          refine lv_aload_n hx hb dX11_part_31 rfl (lv_at hl 1 rfl) ?_
          obtain ⟨⟨b13, t_at_r14, t_fault_r15, t_open_r16⟩, e17, h⟩ := zz_b h
          dsimp only at h
          refine zVi (As := []) (rest := []) (C := RX11) (wr := []) [1, 0, 2] [] 0 ⟨hx, hb, hml, hown, hts⟩ (mX11_unit_3 l D cB cI cZ a_t a_t_now a_t_kept a_t_text a_t_passing a_t_order a_t_times t_thrown t_isKept t_length (t_at_r10 + (nI 1)) t_fault_l5 t_open_l5 t_asked t_byGun t_prizeMost t_listed t_now t_text H.size N T hT b13 t_at_r14 t_fault_r15 t_open_r16 e17) (cwV 0 hts gX11_part_X11_unit rfl rfl rfl (by decide +kernel) ⟨Nat.le_of_ble_eq_true rfl, Nat.le_of_ble_eq_true rfl⟩) hK hN hZ hP hD hS hA rfl rfl rfl rfl rfl rfl rfl rfl hl.1 rfl (lv_room (Nat.le_of_ble_eq_true rfl)) dX11_part_32 ⟨Nat.le_of_ble_eq_true rfl, Nat.le_of_ble_eq_true rfl⟩ (fun H locs hP hD hS => ?_)
          have hP : va_P D vwCl [(a_t, .inr (11, [.int t_thrown, .ref a_t_now, .ref a_t_kept, .int t_isKept, .ref a_t_text, .int t_length, .ref a_t_passing, .int t_at_r14, .int t_fault_r15, .int t_open_r16, .int t_asked, .int t_byGun, .int t_prizeMost, .ref a_t_order, .ref a_t_times, .int t_listed])), (a_t_now, .inl (cI, 1562, .inl t_now)), (a_t_text, .inl (cB, 200, .inl t_text))] H := hP
          have hD : va_D A [(a_t, .inr (11, [.int t_thrown, .ref a_t_now, .ref a_t_kept, .int t_isKept, .ref a_t_text, .int t_length, .ref a_t_passing, .int t_at_r14, .int t_fault_r15, .int t_open_r16, .int t_asked, .int t_byGun, .int t_prizeMost, .ref a_t_order, .ref a_t_times, .int t_listed])), (a_t_now, .inl (cI, 1562, .inl t_now)), (a_t_text, .inl (cB, 200, .inl t_text))] := hD
          refine lv_istore_n (lv' := [(2, .int (zb b13)), (1, .int (zb v1_5)), (0, .ref a_t)]) hx hb dX11_part_35 rfl hl (by decide) rfl (fun ls hl => ?_)
          refine lv_iload_n hx hb dX11_part_36 rfl (lv_at hl 1 rfl) ?_
          refine lv_if_eq (tgt := 48) hx hb dX11_part_37 (by decide) (fun c18 => ?_) (fun c18 => ?_)
          · have h := zz_t h c18
            refine lv_iconst (v := (nI 0)) hx hb dX11_part_48 rfl ?_
            refine lv_istore_n (lv' := [(1, .int (nI 0)), (2, .int (zb b13)), (0, .ref a_t)]) hx hb dX11_part_49 rfl hl (by decide) rfl (fun ls hl => ?_)
            refine lv_goto (tgt := 5) hx hb dX11_part_50 (by decide) ?_
            exact ih5 false t_at_r14 t_fault_r15 t_open_r16 _ _ _ h (hP.sub [0, 1, 2] rfl) (hD.sub [0, 1, 2] rfl rfl) hS (lv_sub hl [0, 2] rfl)
          · have h := zz_f h c18
            refine lv_iload_n hx hb dX11_part_40 rfl (lv_at hl 0 rfl) ?_
            refine lv_if_eq (tgt := 48) hx hb dX11_part_41 (by decide) (fun c19 => ?_) (fun c19 => ?_)
            · have h := zz_t h c19
              refine lv_iconst (v := (nI 0)) hx hb dX11_part_48 rfl ?_
              refine lv_istore_n (lv' := [(1, .int (nI 0)), (2, .int (zb b13)), (0, .ref a_t)]) hx hb dX11_part_49 rfl hl (by decide) rfl (fun ls hl => ?_)
              refine lv_goto (tgt := 5) hx hb dX11_part_50 (by decide) ?_
              exact ih5 false t_at_r14 t_fault_r15 t_open_r16 _ _ _ h (hP.sub [0, 1, 2] rfl) (hD.sub [0, 1, 2] rfl rfl) hS (lv_sub hl [0, 2] rfl)
            · have h := zz_f h c19
              refine lv_iconst (v := (nI 1)) hx hb dX11_part_44 rfl ?_
              refine lv_goto (tgt := 49) hx hb dX11_part_45 (by decide) ?_
              refine lv_istore_n (lv' := [(1, .int (nI 1)), (2, .int (zb b13)), (0, .ref a_t)]) hx hb dX11_part_49 rfl hl (by decide) rfl (fun ls hl => ?_)
              refine lv_goto (tgt := 5) hx hb dX11_part_50 (by decide) ?_
              exact ih5 true t_at_r14 t_fault_r15 t_open_r16 _ _ _ h (hP.sub [0, 1, 2] rfl) (hD.sub [0, 1, 2] rfl rfl) hS (lv_sub hl [0, 2] rfl)
  exact L5 N b1 t_at_r2 t_fault_r3 t_open_r4 _ _ _ h hP hD hS hl
set_option maxHeartbeats 4000000 in
set_option maxRecDepth 100000 in
theorem mX11_tests_3 (l : Launch) (D : va_G) (cB cI cZ : ClassId) (a_t : Nat) (a_t_now : Nat) (a_t_kept : Nat) (a_t_text : Nat) (a_t_passing : Nat) (a_t_order : Nat) (a_t_times : Nat) (t_thrown : Int32) (t_isKept : Int32) (t_length : Int32) (t_at : Int32) (t_fault : Int32) (t_open : Int32) (t_asked : Int32) (t_byGun : Int32) (t_prizeMost : Int32) (t_listed : Int32) (t_now : Nat → Int32) (t_text : Nat → Int32) (sz : Nat) (N : Nat) (b0 : Bool) (t_at' : Int32) (t_fault' : Int32) (t_open' : Int32) (h : fX11_testsD N 4 t_asked t_at t_fault t_length t_open t_now t_text = some (b0, t_at', t_fault', t_open')) : Met l yX11_tests wsX11_tests ({ frames := 13, cells := 0, slots := 0, locals := 296 } : Room) (va_Pc [.ref a_t] (zPre D (zT cB cI cZ) [(a_t, .inr (11, [.int t_thrown, .ref a_t_now, .ref a_t_kept, .int t_isKept, .ref a_t_text, .int t_length, .ref a_t_passing, .int t_at, .int t_fault, .int t_open, .int t_asked, .int t_byGun, .int t_prizeMost, .ref a_t_order, .ref a_t_times, .int t_listed])), (a_t_now, .inl (cI, 1562, .inl t_now)), (a_t_text, .inl (cB, 200, .inl t_text))] sz)) (zQi (zb b0) D (zT cB cI cZ) [(a_t, .inr (11, [.int t_thrown, .ref a_t_now, .ref a_t_kept, .int t_isKept, .ref a_t_text, .int t_length, .ref a_t_passing, .int t_at', .int t_fault', .int t_open', .int t_asked, .int t_byGun, .int t_prizeMost, .ref a_t_order, .ref a_t_times, .int t_listed])), (a_t_now, .inl (cI, 1562, .inl t_now)), (a_t_text, .inl (cB, 200, .inl t_text))] (va_A [(a_t, .inr (11, [.int t_thrown, .ref a_t_now, .ref a_t_kept, .int t_isKept, .ref a_t_text, .int t_length, .ref a_t_passing, .int t_at, .int t_fault, .int t_open, .int t_asked, .int t_byGun, .int t_prizeMost, .ref a_t_order, .ref a_t_times, .int t_listed])), (a_t_now, .inl (cI, 1562, .inl t_now)), (a_t_text, .inl (cB, 200, .inl t_text))] sz)) 0 0 (va_A [(a_t, .inr (11, [.int t_thrown, .ref a_t_now, .ref a_t_kept, .int t_isKept, .ref a_t_text, .int t_length, .ref a_t_passing, .int t_at, .int t_fault, .int t_open, .int t_asked, .int t_byGun, .int t_prizeMost, .ref a_t_order, .ref a_t_times, .int t_listed])), (a_t_now, .inl (cI, 1562, .inl t_now)), (a_t_text, .inl (cB, 200, .inl t_text))] sz) := by
  refine Met.ofW (cc := cX11_tests) (maxL := 3) (ret := (some .boolean)) (by decide) rfl ?_
  intro p e s m args below meth c s₁ B hml hv
  obtain ⟨rfl, hsz, hP, hK, hN, hZ, hD0⟩ := hv
  have hx := B.exec
  have hb := B.bytes
  have hr := B.returns
  have hts := atoms_spec (ws := wsX11_tests) B.pre
  have hown : s.vm.findClass RX11 = some m.cls := findClass_of_methodNamed B.named
  have hlocks := B.notSynchronized
  subst hsz
  have hD := hD0.self (sz := s.heap.size)
  generalize hAe : va_A [(a_t, .inr (11, [.int t_thrown, .ref a_t_now, .ref a_t_kept, .int t_isKept, .ref a_t_text, .int t_length, .ref a_t_passing, .int t_at, .int t_fault, .int t_open, .int t_asked, .int t_byGun, .int t_prizeMost, .ref a_t_order, .ref a_t_times, .int t_listed])), (a_t_now, .inl (cI, 1562, .inl t_now)), (a_t_text, .inl (cB, 200, .inl t_text))] s.heap.size = A at hD hZ ⊢
  have hA : ∀ q : Nat, s.heap.size ≤ q → A q := fun q h => by rw [← hAe]; exact Or.inr h
  have hS : va_S A s.heap s.heap [] := va_S.rf
  have hl := lv_entry ([.ref a_t]) (n := 3) (Nat.le_of_ble_eq_true rfl)
  rw [lg_entry_eq]
  generalize (lg_sl ([.ref a_t]) ++ List.replicate (3 - (lg_sl ([.ref a_t])).length) Slot.unset).toArray = ls at hl ⊢
  have hl : lv_has ls 3 [(0, .ref a_t)] := hl
  obtain ⟨T, hT⟩ : ∃ T, T = fX11_testsD N 3 := ⟨_, rfl⟩; have h : fX11_tests_ T N t_asked t_at t_fault t_length t_open t_now t_text = some (b0, t_at', t_fault', t_open') := by rw [hT]; exact h
  unfold fX11_tests_ at h
  refine lv_aload_n hx hb dX11_tests_0 rfl (lv_at hl 0 rfl) ?_
  obtain ⟨⟨b1, t_at_r2, t_fault_r3, t_open_r4⟩, e5, h⟩ := zz_b h
  dsimp only at h
  refine zVi (As := []) (rest := []) (C := RX11) (wr := []) [0, 1, 2] [] 0 ⟨hx, hb, hml, hown, hts⟩ (mX11_part_3 l D cB cI cZ a_t a_t_now a_t_kept a_t_text a_t_passing a_t_order a_t_times t_thrown t_isKept t_length t_at t_fault t_open t_asked t_byGun t_prizeMost t_listed t_now t_text s.heap.size N T hT b1 t_at_r2 t_fault_r3 t_open_r4 e5) (cwV 0 hts gX11_tests_X11_part rfl rfl rfl (by decide +kernel) ⟨Nat.le_of_ble_eq_true rfl, Nat.le_of_ble_eq_true rfl⟩) hK hN hZ hP hD hS hA rfl rfl rfl rfl rfl rfl rfl rfl hl.1 rfl (lv_room (Nat.le_of_ble_eq_true rfl)) dX11_tests_1 ⟨Nat.le_of_ble_eq_true rfl, Nat.le_of_ble_eq_true rfl⟩ (fun H locs hP hD hS => ?_)
  have hP : va_P D vwCl [(a_t, .inr (11, [.int t_thrown, .ref a_t_now, .ref a_t_kept, .int t_isKept, .ref a_t_text, .int t_length, .ref a_t_passing, .int t_at_r2, .int t_fault_r3, .int t_open_r4, .int t_asked, .int t_byGun, .int t_prizeMost, .ref a_t_order, .ref a_t_times, .int t_listed])), (a_t_now, .inl (cI, 1562, .inl t_now)), (a_t_text, .inl (cB, 200, .inl t_text))] H := hP
  have hD : va_D A [(a_t, .inr (11, [.int t_thrown, .ref a_t_now, .ref a_t_kept, .int t_isKept, .ref a_t_text, .int t_length, .ref a_t_passing, .int t_at_r2, .int t_fault_r3, .int t_open_r4, .int t_asked, .int t_byGun, .int t_prizeMost, .ref a_t_order, .ref a_t_times, .int t_listed])), (a_t_now, .inl (cI, 1562, .inl t_now)), (a_t_text, .inl (cB, 200, .inl t_text))] := hD
  refine lv_istore_n (lv' := [(1, .int (zb b1)), (0, .ref a_t)]) hx hb dX11_tests_4 rfl hl (by decide) rfl (fun ls hl => ?_)
  have X5_53 : ∀ (v1_5 : Bool) (t_at_l5 : Int32) (t_fault_l5 : Int32) (t_open_l5 : Int32) (H : Heap) (locs : List Loc) (ls : Array Slot), some (v1_5, t_at_l5, t_fault_l5, t_open_l5) = some (b0, t_at', t_fault', t_open') → va_P D vwCl [(a_t, .inr (11, [.int t_thrown, .ref a_t_now, .ref a_t_kept, .int t_isKept, .ref a_t_text, .int t_length, .ref a_t_passing, .int t_at_l5, .int t_fault_l5, .int t_open_l5, .int t_asked, .int t_byGun, .int t_prizeMost, .ref a_t_order, .ref a_t_times, .int t_listed])), (a_t_now, .inl (cI, 1562, .inl t_now)), (a_t_text, .inl (cB, 200, .inl t_text))] H → va_D A [(a_t, .inr (11, [.int t_thrown, .ref a_t_now, .ref a_t_kept, .int t_isKept, .ref a_t_text, .int t_length, .ref a_t_passing, .int t_at_l5, .int t_fault_l5, .int t_open_l5, .int t_asked, .int t_byGun, .int t_prizeMost, .ref a_t_order, .ref a_t_times, .int t_listed])), (a_t_now, .inl (cI, 1562, .inl t_now)), (a_t_text, .inl (cB, 200, .inl t_text))] → va_S A s.heap H locs → lv_has ls 3 [(1, .int (zb v1_5)), (0, .ref a_t)] → W p l e (headSpec wsX11_tests ({ frames := 13, cells := 0, slots := 0, locals := 296 } : Room)).room s m #[Value.ref a_t] below meth c H locs 0 0 (MQ below (zQi (zb b0) D (zT cB cI cZ) [(a_t, .inr (11, [.int t_thrown, .ref a_t_now, .ref a_t_kept, .int t_isKept, .ref a_t_text, .int t_length, .ref a_t_passing, .int t_at', .int t_fault', .int t_open', .int t_asked, .int t_byGun, .int t_prizeMost, .ref a_t_order, .ref a_t_times, .int t_listed])), (a_t_now, .inl (cI, 1562, .inl t_now)), (a_t_text, .inl (cB, 200, .inl t_text))] A) #[Value.ref a_t] s 0 0 A) (F0 m 53 ls []) := by
    intro v1_5 t_at_l5 t_fault_l5 t_open_l5 H locs ls h hP hD hS hl
    refine lv_iload_n hx hb dX11_tests_53 rfl (lv_at hl 0 rfl) ?_
    obtain ⟨j0_, g_⟩ := Prod.mk.inj (Option.some.inj h)
    obtain ⟨j1_, g_⟩ := Prod.mk.inj g_
    obtain ⟨j2_, g_⟩ := Prod.mk.inj g_
    have j3_ := g_
    subst j0_
    subst j1_
    subst j2_
    subst j3_
    exact W.zret (v := (zb v1_5)) hx hb hr zz_n (fun t ht hW => ⟨⟨_, (), rfl, rfl, zPost.of hP hD hK ht hW [0, 1, 2] rfl rfl rfl⟩, hS.F ht⟩) hS.2.2 dX11_tests_54
  have L5 : ∀ (n : Nat) (v1_5 : Bool) (t_at_l5 : Int32) (t_fault_l5 : Int32) (t_open_l5 : Int32) (H : Heap) (locs : List Loc) (ls : Array Slot), fX11_tests_L5 N T t_length t_asked t_now t_text (fun (v1_5 : Bool) (t_at_l5 : Int32) (t_fault_l5 : Int32) (t_open_l5 : Int32) => some (v1_5, t_at_l5, t_fault_l5, t_open_l5)) n v1_5 t_at_l5 t_fault_l5 t_open_l5 = some (b0, t_at', t_fault', t_open') → va_P D vwCl [(a_t, .inr (11, [.int t_thrown, .ref a_t_now, .ref a_t_kept, .int t_isKept, .ref a_t_text, .int t_length, .ref a_t_passing, .int t_at_l5, .int t_fault_l5, .int t_open_l5, .int t_asked, .int t_byGun, .int t_prizeMost, .ref a_t_order, .ref a_t_times, .int t_listed])), (a_t_now, .inl (cI, 1562, .inl t_now)), (a_t_text, .inl (cB, 200, .inl t_text))] H → va_D A [(a_t, .inr (11, [.int t_thrown, .ref a_t_now, .ref a_t_kept, .int t_isKept, .ref a_t_text, .int t_length, .ref a_t_passing, .int t_at_l5, .int t_fault_l5, .int t_open_l5, .int t_asked, .int t_byGun, .int t_prizeMost, .ref a_t_order, .ref a_t_times, .int t_listed])), (a_t_now, .inl (cI, 1562, .inl t_now)), (a_t_text, .inl (cB, 200, .inl t_text))] → va_S A s.heap H locs → lv_has ls 3 [(1, .int (zb v1_5)), (0, .ref a_t)] → W p l e (headSpec wsX11_tests ({ frames := 13, cells := 0, slots := 0, locals := 296 } : Room)).room s m #[Value.ref a_t] below meth c H locs 0 0 (MQ below (zQi (zb b0) D (zT cB cI cZ) [(a_t, .inr (11, [.int t_thrown, .ref a_t_now, .ref a_t_kept, .int t_isKept, .ref a_t_text, .int t_length, .ref a_t_passing, .int t_at', .int t_fault', .int t_open', .int t_asked, .int t_byGun, .int t_prizeMost, .ref a_t_order, .ref a_t_times, .int t_listed])), (a_t_now, .inl (cI, 1562, .inl t_now)), (a_t_text, .inl (cB, 200, .inl t_text))] A) #[Value.ref a_t] s 0 0 A) (F0 m 5 ls []) := by
    intro n
    induction n with
    | zero => intro _ _ _ _ H locs ls h hP hD hS hl; cases h
    | succ n5 ih5 =>
      intro v1_5 t_at_l5 t_fault_l5 t_open_l5 H locs ls h hP hD hS hl
      rw [fX11_tests_L5.eq_2] at h
      refine lv_aload_n hx hb dX11_tests_5 rfl (lv_at hl 1 rfl) ?_
      obtain ⟨b6, e7, h⟩ := zz_b h
      refine zVi (As := []) (rest := []) (C := RX11) (wr := [(a_t_now, .inl (cI, 1562, .inl t_now)), (a_t_text, .inl (cB, 200, .inl t_text))]) [0] [1, 2] 0 ⟨hx, hb, hml, hown, hts⟩ (mX11_isFine l D cB cI cZ a_t a_t_now a_t_kept a_t_text a_t_passing a_t_order a_t_times t_thrown t_isKept t_length t_at_l5 t_fault_l5 t_open_l5 t_asked t_byGun t_prizeMost t_listed H.size b6 e7) (cwV 0 hts gX11_tests_X11_isFine rfl rfl rfl (by decide +kernel) ⟨Nat.le_of_ble_eq_true rfl, Nat.le_of_ble_eq_true rfl⟩) hK hN hZ hP hD hS hA rfl rfl rfl rfl rfl rfl rfl rfl hl.1 rfl (lv_room (Nat.le_of_ble_eq_true rfl)) dX11_tests_6 ⟨Nat.le_of_ble_eq_true rfl, Nat.le_of_ble_eq_true rfl⟩ (fun H locs hP hD hS => ?_)
      have hP : va_P D vwCl [(a_t_now, .inl (cI, 1562, .inl t_now)), (a_t_text, .inl (cB, 200, .inl t_text)), (a_t, .inr (11, [.int t_thrown, .ref a_t_now, .ref a_t_kept, .int t_isKept, .ref a_t_text, .int t_length, .ref a_t_passing, .int t_at_l5, .int t_fault_l5, .int t_open_l5, .int t_asked, .int t_byGun, .int t_prizeMost, .ref a_t_order, .ref a_t_times, .int t_listed]))] H := hP
      have hD : va_D A [(a_t_now, .inl (cI, 1562, .inl t_now)), (a_t_text, .inl (cB, 200, .inl t_text)), (a_t, .inr (11, [.int t_thrown, .ref a_t_now, .ref a_t_kept, .int t_isKept, .ref a_t_text, .int t_length, .ref a_t_passing, .int t_at_l5, .int t_fault_l5, .int t_open_l5, .int t_asked, .int t_byGun, .int t_prizeMost, .ref a_t_order, .ref a_t_times, .int t_listed]))] := hD
      refine lv_if_eq (tgt := 53) hx hb dX11_tests_9 (by decide) (fun c8 => ?_) (fun c8 => ?_)
      · have h := zz_t h c8
        exact X5_53 v1_5 t_at_l5 t_fault_l5 t_open_l5 _ _ _ h (hP.sub [2, 0, 1] rfl) (hD.sub [2, 0, 1] rfl rfl) hS (lv_sub hl [0, 1] rfl)
      · have h := zz_f h c8
        refine lv_aload_n hx hb dX11_tests_12 rfl (lv_at hl 1 rfl) ?_
        obtain ⟨⟨r9, t_at_r10⟩, e11, h⟩ := zz_b h
        dsimp only at h
        refine zVi (As := []) (rest := []) (C := RX11) (wr := [(a_t_now, .inl (cI, 1562, .inl t_now))]) [2, 1] [0] 0 ⟨hx, hb, hml, hown, hts⟩ (mX11_look l D cB cI cZ a_t a_t_now a_t_kept a_t_text a_t_passing a_t_order a_t_times t_thrown t_isKept t_length t_at_l5 t_fault_l5 t_open_l5 t_asked t_byGun t_prizeMost t_listed t_text H.size N r9 t_at_r10 e11) (cwV 0 hts gX11_tests_X11_look rfl rfl rfl (by decide +kernel) ⟨Nat.le_of_ble_eq_true rfl, Nat.le_of_ble_eq_true rfl⟩) hK hN hZ hP hD hS hA rfl rfl rfl rfl rfl rfl rfl rfl hl.1 rfl (lv_room (Nat.le_of_ble_eq_true rfl)) dX11_tests_13 ⟨Nat.le_of_ble_eq_true rfl, Nat.le_of_ble_eq_true rfl⟩ (fun H locs hP hD hS => ?_)
        have hP : va_P D vwCl [(a_t_now, .inl (cI, 1562, .inl t_now)), (a_t, .inr (11, [.int t_thrown, .ref a_t_now, .ref a_t_kept, .int t_isKept, .ref a_t_text, .int t_length, .ref a_t_passing, .int t_at_r10, .int t_fault_l5, .int t_open_l5, .int t_asked, .int t_byGun, .int t_prizeMost, .ref a_t_order, .ref a_t_times, .int t_listed])), (a_t_text, .inl (cB, 200, .inl t_text))] H := hP
        have hD : va_D A [(a_t_now, .inl (cI, 1562, .inl t_now)), (a_t, .inr (11, [.int t_thrown, .ref a_t_now, .ref a_t_kept, .int t_isKept, .ref a_t_text, .int t_length, .ref a_t_passing, .int t_at_r10, .int t_fault_l5, .int t_open_l5, .int t_asked, .int t_byGun, .int t_prizeMost, .ref a_t_order, .ref a_t_times, .int t_listed])), (a_t_text, .inl (cB, 200, .inl t_text))] := hD
        refine lv_bipush (v := (nI 124)) hx hb dX11_tests_16 rfl ?_
        refine lv_icmp_ne (tgt := 53) hx hb dX11_tests_18 (by decide) (fun c12 => ?_) (fun c12 => ?_)
        · have h := zz_f h c12
          exact X5_53 v1_5 t_at_r10 t_fault_l5 t_open_l5 _ _ _ h (hP.sub [1, 0, 2] rfl) (hD.sub [1, 0, 2] rfl rfl) hS (lv_sub hl [0, 1] rfl)
        · have h := zz_t h c12
          refine lv_aload_n hx hb dX11_tests_21 rfl (lv_at hl 1 rfl) ?_
          refine lv_dup hx hb dX11_tests_22 rfl ?_
          refine va_get (D := D) (ci := 11) (C := RX11) (T := TX11) (N := 16) hx hb hts qX11_tests_X11 hown hK hP 1 rfl rfl 7 (by decide) (hts _ kX11_tests_0) (fun _ h9 => h9) rfl dX11_tests_23 ?_
          refine lv_iconst (v := (nI 1)) hx hb dX11_tests_26 rfl ?_
          refine lv_iadd hx hb dX11_tests_27 ?_
          refine va_put (D := D) (ci := 11) (ty := .int) (C := RX11) (T := TX11) (N := 16) hx hb hts qX11_tests_X11 tyX11 tyX11_ok nmX11 hown hK hP hD hS 1 rfl rfl 7 (by decide) (hts _ kX11_tests_0) (fun _ h9 => h9) rfl (by decide +kernel) rfl (by first | rfl | exact zz_fit) (Nat.le_of_ble_eq_true rfl) dX11_tests_28 (fun H locs hP hD hS => ?_)
          have hP : va_P D vwCl [(a_t_now, .inl (cI, 1562, .inl t_now)), (a_t, .inr (11, [.int t_thrown, .ref a_t_now, .ref a_t_kept, .int t_isKept, .ref a_t_text, .int t_length, .ref a_t_passing, .int (t_at_r10 + (nI 1)), .int t_fault_l5, .int t_open_l5, .int t_asked, .int t_byGun, .int t_prizeMost, .ref a_t_order, .ref a_t_times, .int t_listed])), (a_t_text, .inl (cB, 200, .inl t_text))] H := hP
          have hD : va_D A [(a_t_now, .inl (cI, 1562, .inl t_now)), (a_t, .inr (11, [.int t_thrown, .ref a_t_now, .ref a_t_kept, .int t_isKept, .ref a_t_text, .int t_length, .ref a_t_passing, .int (t_at_r10 + (nI 1)), .int t_fault_l5, .int t_open_l5, .int t_asked, .int t_byGun, .int t_prizeMost, .ref a_t_order, .ref a_t_times, .int t_listed])), (a_t_text, .inl (cB, 200, .inl t_text))] := hD
          refine lv_aload_n hx hb dX11_tests_31 rfl (lv_at hl 1 rfl) ?_
          obtain ⟨⟨b13, t_at_r14, t_fault_r15, t_open_r16⟩, e17, h⟩ := zz_b h
          dsimp only at h
          refine zVi (As := []) (rest := []) (C := RX11) (wr := []) [1, 0, 2] [] 0 ⟨hx, hb, hml, hown, hts⟩ (mX11_part_3 l D cB cI cZ a_t a_t_now a_t_kept a_t_text a_t_passing a_t_order a_t_times t_thrown t_isKept t_length (t_at_r10 + (nI 1)) t_fault_l5 t_open_l5 t_asked t_byGun t_prizeMost t_listed t_now t_text H.size N T hT b13 t_at_r14 t_fault_r15 t_open_r16 e17) (cwV 0 hts gX11_tests_X11_part rfl rfl rfl (by decide +kernel) ⟨Nat.le_of_ble_eq_true rfl, Nat.le_of_ble_eq_true rfl⟩) hK hN hZ hP hD hS hA rfl rfl rfl rfl rfl rfl rfl rfl hl.1 rfl (lv_room (Nat.le_of_ble_eq_true rfl)) dX11_tests_32 ⟨Nat.le_of_ble_eq_true rfl, Nat.le_of_ble_eq_true rfl⟩ (fun H locs hP hD hS => ?_)
          have hP : va_P D vwCl [(a_t, .inr (11, [.int t_thrown, .ref a_t_now, .ref a_t_kept, .int t_isKept, .ref a_t_text, .int t_length, .ref a_t_passing, .int t_at_r14, .int t_fault_r15, .int t_open_r16, .int t_asked, .int t_byGun, .int t_prizeMost, .ref a_t_order, .ref a_t_times, .int t_listed])), (a_t_now, .inl (cI, 1562, .inl t_now)), (a_t_text, .inl (cB, 200, .inl t_text))] H := hP
          have hD : va_D A [(a_t, .inr (11, [.int t_thrown, .ref a_t_now, .ref a_t_kept, .int t_isKept, .ref a_t_text, .int t_length, .ref a_t_passing, .int t_at_r14, .int t_fault_r15, .int t_open_r16, .int t_asked, .int t_byGun, .int t_prizeMost, .ref a_t_order, .ref a_t_times, .int t_listed])), (a_t_now, .inl (cI, 1562, .inl t_now)), (a_t_text, .inl (cB, 200, .inl t_text))] := hD
          refine lv_istore_n (lv' := [(2, .int (zb b13)), (1, .int (zb v1_5)), (0, .ref a_t)]) hx hb dX11_tests_35 rfl hl (by decide) rfl (fun ls hl => ?_)
          refine lv_iload_n hx hb dX11_tests_36 rfl (lv_at hl 1 rfl) ?_
          refine lv_if_ne (tgt := 44) hx hb dX11_tests_37 (by decide) (fun c18 => ?_) (fun c18 => ?_)
          · have h := zz_f h c18
            refine lv_iconst (v := (nI 1)) hx hb dX11_tests_44 rfl ?_
            refine lv_goto (tgt := 49) hx hb dX11_tests_45 (by decide) ?_
            refine lv_istore_n (lv' := [(1, .int (nI 1)), (2, .int (zb b13)), (0, .ref a_t)]) hx hb dX11_tests_49 rfl hl (by decide) rfl (fun ls hl => ?_)
            refine lv_goto (tgt := 5) hx hb dX11_tests_50 (by decide) ?_
            exact ih5 true t_at_r14 t_fault_r15 t_open_r16 _ _ _ h (hP.sub [0, 1, 2] rfl) (hD.sub [0, 1, 2] rfl rfl) hS (lv_sub hl [0, 2] rfl)
          · have h := zz_t h c18
            refine lv_iload_n hx hb dX11_tests_40 rfl (lv_at hl 0 rfl) ?_
            refine lv_if_eq (tgt := 48) hx hb dX11_tests_41 (by decide) (fun c19 => ?_) (fun c19 => ?_)
            · have h := zz_t h c19
              refine lv_iconst (v := (nI 0)) hx hb dX11_tests_48 rfl ?_
              refine lv_istore_n (lv' := [(1, .int (nI 0)), (2, .int (zb b13)), (0, .ref a_t)]) hx hb dX11_tests_49 rfl hl (by decide) rfl (fun ls hl => ?_)
              refine lv_goto (tgt := 5) hx hb dX11_tests_50 (by decide) ?_
              exact ih5 false t_at_r14 t_fault_r15 t_open_r16 _ _ _ h (hP.sub [0, 1, 2] rfl) (hD.sub [0, 1, 2] rfl rfl) hS (lv_sub hl [0, 2] rfl)
            · have h := zz_f h c19
              refine lv_iconst (v := (nI 1)) hx hb dX11_tests_44 rfl ?_
              refine lv_goto (tgt := 49) hx hb dX11_tests_45 (by decide) ?_
              refine lv_istore_n (lv' := [(1, .int (nI 1)), (2, .int (zb b13)), (0, .ref a_t)]) hx hb dX11_tests_49 rfl hl (by decide) rfl (fun ls hl => ?_)
              refine lv_goto (tgt := 5) hx hb dX11_tests_50 (by decide) ?_
              exact ih5 true t_at_r14 t_fault_r15 t_open_r16 _ _ _ h (hP.sub [0, 1, 2] rfl) (hD.sub [0, 1, 2] rfl rfl) hS (lv_sub hl [0, 2] rfl)
  exact L5 N b1 t_at_r2 t_fault_r3 t_open_r4 _ _ _ h hP hD hS hl
set_option maxHeartbeats 4000000 in
set_option maxRecDepth 100000 in
theorem mX11_unit_4 (l : Launch) (D : va_G) (cB cI cZ : ClassId) (a_t : Nat) (a_t_now : Nat) (a_t_kept : Nat) (a_t_text : Nat) (a_t_passing : Nat) (a_t_order : Nat) (a_t_times : Nat) (t_thrown : Int32) (t_isKept : Int32) (t_length : Int32) (t_at : Int32) (t_fault : Int32) (t_open : Int32) (t_asked : Int32) (t_byGun : Int32) (t_prizeMost : Int32) (t_listed : Int32) (t_now : Nat → Int32) (t_text : Nat → Int32) (sz : Nat) (N : Nat) (T : Int32 → Int32 → Int32 → Int32 → Int32 → (Nat → Int32) → (Nat → Int32) → Option (Bool × Int32 × Int32 × Int32)) (hT : T = fX11_testsD N 4) (b0 : Bool) (t_at' : Int32) (t_fault' : Int32) (t_open' : Int32) (h : fX11_unit T N t_asked t_at t_fault t_length t_open t_now t_text = some (b0, t_at', t_fault', t_open')) : Met l yX11_unit wsX11_unit ({ frames := 14, cells := 0, slots := 0, locals := 318 } : Room) (va_Pc [.ref a_t] (zPre D (zT cB cI cZ) [(a_t, .inr (11, [.int t_thrown, .ref a_t_now, .ref a_t_kept, .int t_isKept, .ref a_t_text, .int t_length, .ref a_t_passing, .int t_at, .int t_fault, .int t_open, .int t_asked, .int t_byGun, .int t_prizeMost, .ref a_t_order, .ref a_t_times, .int t_listed])), (a_t_now, .inl (cI, 1562, .inl t_now)), (a_t_text, .inl (cB, 200, .inl t_text))] sz)) (zQi (zb b0) D (zT cB cI cZ) [(a_t, .inr (11, [.int t_thrown, .ref a_t_now, .ref a_t_kept, .int t_isKept, .ref a_t_text, .int t_length, .ref a_t_passing, .int t_at', .int t_fault', .int t_open', .int t_asked, .int t_byGun, .int t_prizeMost, .ref a_t_order, .ref a_t_times, .int t_listed])), (a_t_now, .inl (cI, 1562, .inl t_now)), (a_t_text, .inl (cB, 200, .inl t_text))] (va_A [(a_t, .inr (11, [.int t_thrown, .ref a_t_now, .ref a_t_kept, .int t_isKept, .ref a_t_text, .int t_length, .ref a_t_passing, .int t_at, .int t_fault, .int t_open, .int t_asked, .int t_byGun, .int t_prizeMost, .ref a_t_order, .ref a_t_times, .int t_listed])), (a_t_now, .inl (cI, 1562, .inl t_now)), (a_t_text, .inl (cB, 200, .inl t_text))] sz)) 0 0 (va_A [(a_t, .inr (11, [.int t_thrown, .ref a_t_now, .ref a_t_kept, .int t_isKept, .ref a_t_text, .int t_length, .ref a_t_passing, .int t_at, .int t_fault, .int t_open, .int t_asked, .int t_byGun, .int t_prizeMost, .ref a_t_order, .ref a_t_times, .int t_listed])), (a_t_now, .inl (cI, 1562, .inl t_now)), (a_t_text, .inl (cB, 200, .inl t_text))] sz) := by
  refine Met.ofW (cc := cX11_unit) (maxL := 6) (ret := (some .boolean)) (by decide) rfl ?_
  intro p e s m args below meth c s₁ B hml hv
  obtain ⟨rfl, hsz, hP, hK, hN, hZ, hD0⟩ := hv
  have hx := B.exec
  have hb := B.bytes
  have hr := B.returns
  have hts := atoms_spec (ws := wsX11_unit) B.pre
  have hown : s.vm.findClass RX11 = some m.cls := findClass_of_methodNamed B.named
  have hlocks := B.notSynchronized
  subst hsz
  have hD := hD0.self (sz := s.heap.size)
  generalize hAe : va_A [(a_t, .inr (11, [.int t_thrown, .ref a_t_now, .ref a_t_kept, .int t_isKept, .ref a_t_text, .int t_length, .ref a_t_passing, .int t_at, .int t_fault, .int t_open, .int t_asked, .int t_byGun, .int t_prizeMost, .ref a_t_order, .ref a_t_times, .int t_listed])), (a_t_now, .inl (cI, 1562, .inl t_now)), (a_t_text, .inl (cB, 200, .inl t_text))] s.heap.size = A at hD hZ ⊢
  have hA : ∀ q : Nat, s.heap.size ≤ q → A q := fun q h => by rw [← hAe]; exact Or.inr h
  have hS : va_S A s.heap s.heap [] := va_S.rf
  have hl := lv_entry ([.ref a_t]) (n := 6) (Nat.le_of_ble_eq_true rfl)
  rw [lg_entry_eq]
  generalize (lg_sl ([.ref a_t]) ++ List.replicate (6 - (lg_sl ([.ref a_t])).length) Slot.unset).toArray = ls at hl ⊢
  have hl : lv_has ls 6 [(0, .ref a_t)] := hl
  unfold fX11_unit at h
  refine lv_aload_n hx hb dX11_unit_0 rfl (lv_at hl 0 rfl) ?_
  obtain ⟨⟨r1, t_at_r2⟩, e3, h⟩ := zz_b h
  dsimp only at h
  refine zVi (As := []) (rest := []) (C := RX11) (wr := [(a_t_now, .inl (cI, 1562, .inl t_now))]) [0, 2] [1] 0 ⟨hx, hb, hml, hown, hts⟩ (mX11_look l D cB cI cZ a_t a_t_now a_t_kept a_t_text a_t_passing a_t_order a_t_times t_thrown t_isKept t_length t_at t_fault t_open t_asked t_byGun t_prizeMost t_listed t_text s.heap.size N r1 t_at_r2 e3) (cwV 0 hts gX11_unit_X11_look rfl rfl rfl (by decide +kernel) ⟨Nat.le_of_ble_eq_true rfl, Nat.le_of_ble_eq_true rfl⟩) hK hN hZ hP hD hS hA rfl rfl rfl rfl rfl rfl rfl rfl hl.1 rfl (lv_room (Nat.le_of_ble_eq_true rfl)) dX11_unit_1 ⟨Nat.le_of_ble_eq_true rfl, Nat.le_of_ble_eq_true rfl⟩ (fun H locs hP hD hS => ?_)
  have hP : va_P D vwCl [(a_t_now, .inl (cI, 1562, .inl t_now)), (a_t, .inr (11, [.int t_thrown, .ref a_t_now, .ref a_t_kept, .int t_isKept, .ref a_t_text, .int t_length, .ref a_t_passing, .int t_at_r2, .int t_fault, .int t_open, .int t_asked, .int t_byGun, .int t_prizeMost, .ref a_t_order, .ref a_t_times, .int t_listed])), (a_t_text, .inl (cB, 200, .inl t_text))] H := hP
  have hD : va_D A [(a_t_now, .inl (cI, 1562, .inl t_now)), (a_t, .inr (11, [.int t_thrown, .ref a_t_now, .ref a_t_kept, .int t_isKept, .ref a_t_text, .int t_length, .ref a_t_passing, .int t_at_r2, .int t_fault, .int t_open, .int t_asked, .int t_byGun, .int t_prizeMost, .ref a_t_order, .ref a_t_times, .int t_listed])), (a_t_text, .inl (cB, 200, .inl t_text))] := hD
  refine lv_istore_n (lv' := [(1, .int r1), (0, .ref a_t)]) hx hb dX11_unit_4 rfl hl (by decide) rfl (fun ls hl => ?_)
  refine lv_iload_n hx hb dX11_unit_5 rfl (lv_at hl 0 rfl) ?_
  refine lv_bipush (v := (nI 40)) hx hb dX11_unit_6 rfl ?_
  refine lv_icmp_ne (tgt := 69) hx hb dX11_unit_8 (by decide) (fun c4 => ?_) (fun c4 => ?_)
  · have h := zz_f h c4
    refine lv_iload_n hx hb dX11_unit_69 rfl (lv_at hl 0 rfl) ?_
    refine lv_bipush (v := (nI 115)) hx hb dX11_unit_70 rfl ?_
    have J120 : ∀ (s0_j120 : Int32) (H : Heap) (locs : List Loc) (ls : Array Slot), fX11_unit_J120 N t_length t_fault t_open t_asked t_now t_text t_at_r2 s0_j120 = some (b0, t_at', t_fault', t_open') → va_P D vwCl [(a_t_now, .inl (cI, 1562, .inl t_now)), (a_t, .inr (11, [.int t_thrown, .ref a_t_now, .ref a_t_kept, .int t_isKept, .ref a_t_text, .int t_length, .ref a_t_passing, .int t_at_r2, .int t_fault, .int t_open, .int t_asked, .int t_byGun, .int t_prizeMost, .ref a_t_order, .ref a_t_times, .int t_listed])), (a_t_text, .inl (cB, 200, .inl t_text))] H → va_D A [(a_t_now, .inl (cI, 1562, .inl t_now)), (a_t, .inr (11, [.int t_thrown, .ref a_t_now, .ref a_t_kept, .int t_isKept, .ref a_t_text, .int t_length, .ref a_t_passing, .int t_at_r2, .int t_fault, .int t_open, .int t_asked, .int t_byGun, .int t_prizeMost, .ref a_t_order, .ref a_t_times, .int t_listed])), (a_t_text, .inl (cB, 200, .inl t_text))] → va_S A s.heap H locs → lv_has ls 6 [(1, .int r1), (0, .ref a_t)] → W p l e (headSpec wsX11_unit ({ frames := 14, cells := 0, slots := 0, locals := 318 } : Room)).room s m #[Value.ref a_t] below meth c H locs 0 0 (MQ below (zQi (zb b0) D (zT cB cI cZ) [(a_t, .inr (11, [.int t_thrown, .ref a_t_now, .ref a_t_kept, .int t_isKept, .ref a_t_text, .int t_length, .ref a_t_passing, .int t_at', .int t_fault', .int t_open', .int t_asked, .int t_byGun, .int t_prizeMost, .ref a_t_order, .ref a_t_times, .int t_listed])), (a_t_now, .inl (cI, 1562, .inl t_now)), (a_t_text, .inl (cB, 200, .inl t_text))] A) #[Value.ref a_t] s 0 0 A) (F0 m 120 ls [.int s0_j120]) := by
      intro s0_j120 H locs ls h hP hD hS hl
      unfold fX11_unit_J120 at h
      refine lv_istore_n (lv' := [(2, .int s0_j120), (1, .int r1), (0, .ref a_t)]) hx hb dX11_unit_120 rfl hl (by decide) rfl (fun ls hl => ?_)
      refine lv_iload_n hx hb dX11_unit_121 rfl (lv_at hl 0 rfl) ?_
      refine lv_iconst (v := (-1 : Int32)) hx hb dX11_unit_122 rfl ?_
      refine lv_icmp_ne (tgt := 132) hx hb dX11_unit_123 (by decide) (fun c5 => ?_) (fun c5 => ?_)
      · have h := zz_f h c5
        refine lv_aload_n hx hb dX11_unit_132 rfl (lv_at hl 2 rfl) ?_
        refine lv_dup hx hb dX11_unit_133 rfl ?_
        refine va_get (D := D) (ci := 11) (C := RX11) (T := TX11) (N := 16) hx hb hts qX11_unit_X11 hown hK hP 1 rfl rfl 7 (by decide) (hts _ kX11_unit_0) (fun _ h9 => h9) rfl dX11_unit_134 ?_
        refine lv_iconst (v := (nI 1)) hx hb dX11_unit_137 rfl ?_
        refine lv_iadd hx hb dX11_unit_138 ?_
        refine va_put (D := D) (ci := 11) (ty := .int) (C := RX11) (T := TX11) (N := 16) hx hb hts qX11_unit_X11 tyX11 tyX11_ok nmX11 hown hK hP hD hS 1 rfl rfl 7 (by decide) (hts _ kX11_unit_0) (fun _ h9 => h9) rfl (by decide +kernel) rfl (by first | rfl | exact zz_fit) (Nat.le_of_ble_eq_true rfl) dX11_unit_139 (fun H locs hP hD hS => ?_)
        have hP : va_P D vwCl [(a_t_now, .inl (cI, 1562, .inl t_now)), (a_t, .inr (11, [.int t_thrown, .ref a_t_now, .ref a_t_kept, .int t_isKept, .ref a_t_text, .int t_length, .ref a_t_passing, .int (t_at_r2 + (nI 1)), .int t_fault, .int t_open, .int t_asked, .int t_byGun, .int t_prizeMost, .ref a_t_order, .ref a_t_times, .int t_listed])), (a_t_text, .inl (cB, 200, .inl t_text))] H := hP
        have hD : va_D A [(a_t_now, .inl (cI, 1562, .inl t_now)), (a_t, .inr (11, [.int t_thrown, .ref a_t_now, .ref a_t_kept, .int t_isKept, .ref a_t_text, .int t_length, .ref a_t_passing, .int (t_at_r2 + (nI 1)), .int t_fault, .int t_open, .int t_asked, .int t_byGun, .int t_prizeMost, .ref a_t_order, .ref a_t_times, .int t_listed])), (a_t_text, .inl (cB, 200, .inl t_text))] := hD
        refine lv_aload_n hx hb dX11_unit_142 rfl (lv_at hl 2 rfl) ?_
        obtain ⟨⟨r6, t_at_r7⟩, e8, h⟩ := zz_b h
        dsimp only at h
        refine zVi (As := []) (rest := []) (C := RX11) (wr := [(a_t_now, .inl (cI, 1562, .inl t_now))]) [1, 2] [0] 0 ⟨hx, hb, hml, hown, hts⟩ (mX11_look l D cB cI cZ a_t a_t_now a_t_kept a_t_text a_t_passing a_t_order a_t_times t_thrown t_isKept t_length (t_at_r2 + (nI 1)) t_fault t_open t_asked t_byGun t_prizeMost t_listed t_text H.size N r6 t_at_r7 e8) (cwV 0 hts gX11_unit_X11_look rfl rfl rfl (by decide +kernel) ⟨Nat.le_of_ble_eq_true rfl, Nat.le_of_ble_eq_true rfl⟩) hK hN hZ hP hD hS hA rfl rfl rfl rfl rfl rfl rfl rfl hl.1 rfl (lv_room (Nat.le_of_ble_eq_true rfl)) dX11_unit_143 ⟨Nat.le_of_ble_eq_true rfl, Nat.le_of_ble_eq_true rfl⟩ (fun H locs hP hD hS => ?_)
        have hP : va_P D vwCl [(a_t_now, .inl (cI, 1562, .inl t_now)), (a_t, .inr (11, [.int t_thrown, .ref a_t_now, .ref a_t_kept, .int t_isKept, .ref a_t_text, .int t_length, .ref a_t_passing, .int t_at_r7, .int t_fault, .int t_open, .int t_asked, .int t_byGun, .int t_prizeMost, .ref a_t_order, .ref a_t_times, .int t_listed])), (a_t_text, .inl (cB, 200, .inl t_text))] H := hP
        have hD : va_D A [(a_t_now, .inl (cI, 1562, .inl t_now)), (a_t, .inr (11, [.int t_thrown, .ref a_t_now, .ref a_t_kept, .int t_isKept, .ref a_t_text, .int t_length, .ref a_t_passing, .int t_at_r7, .int t_fault, .int t_open, .int t_asked, .int t_byGun, .int t_prizeMost, .ref a_t_order, .ref a_t_times, .int t_listed])), (a_t_text, .inl (cB, 200, .inl t_text))] := hD
        refine lv_istore_n (lv' := [(3, .int r6), (2, .int s0_j120), (1, .int r1), (0, .ref a_t)]) hx hb dX11_unit_146 rfl hl (by decide) rfl (fun ls hl => ?_)
        refine lv_iload_n hx hb dX11_unit_147 rfl (lv_at hl 0 rfl) ?_
        refine lv_bipush (v := (nI 61)) hx hb dX11_unit_148 rfl ?_
        have J171 : ∀ (H : Heap) (locs : List Loc) (ls : Array Slot), fX11_unit_J171 N t_length t_fault t_open t_asked t_now t_text s0_j120 r6 t_at_r7 = some (b0, t_at', t_fault', t_open') → va_P D vwCl [(a_t_now, .inl (cI, 1562, .inl t_now)), (a_t, .inr (11, [.int t_thrown, .ref a_t_now, .ref a_t_kept, .int t_isKept, .ref a_t_text, .int t_length, .ref a_t_passing, .int t_at_r7, .int t_fault, .int t_open, .int t_asked, .int t_byGun, .int t_prizeMost, .ref a_t_order, .ref a_t_times, .int t_listed])), (a_t_text, .inl (cB, 200, .inl t_text))] H → va_D A [(a_t_now, .inl (cI, 1562, .inl t_now)), (a_t, .inr (11, [.int t_thrown, .ref a_t_now, .ref a_t_kept, .int t_isKept, .ref a_t_text, .int t_length, .ref a_t_passing, .int t_at_r7, .int t_fault, .int t_open, .int t_asked, .int t_byGun, .int t_prizeMost, .ref a_t_order, .ref a_t_times, .int t_listed])), (a_t_text, .inl (cB, 200, .inl t_text))] → va_S A s.heap H locs → lv_has ls 6 [(3, .int r6), (2, .int s0_j120), (1, .int r1), (0, .ref a_t)] → W p l e (headSpec wsX11_unit ({ frames := 14, cells := 0, slots := 0, locals := 318 } : Room)).room s m #[Value.ref a_t] below meth c H locs 0 0 (MQ below (zQi (zb b0) D (zT cB cI cZ) [(a_t, .inr (11, [.int t_thrown, .ref a_t_now, .ref a_t_kept, .int t_isKept, .ref a_t_text, .int t_length, .ref a_t_passing, .int t_at', .int t_fault', .int t_open', .int t_asked, .int t_byGun, .int t_prizeMost, .ref a_t_order, .ref a_t_times, .int t_listed])), (a_t_now, .inl (cI, 1562, .inl t_now)), (a_t_text, .inl (cB, 200, .inl t_text))] A) #[Value.ref a_t] s 0 0 A) (F0 m 171 ls []) := by
          intro  H locs ls h hP hD hS hl
          unfold fX11_unit_J171 at h
          refine lv_aload_n hx hb dX11_unit_171 rfl (lv_at hl 3 rfl) ?_
          refine lv_dup hx hb dX11_unit_172 rfl ?_
          refine va_get (D := D) (ci := 11) (C := RX11) (T := TX11) (N := 16) hx hb hts qX11_unit_X11 hown hK hP 1 rfl rfl 7 (by decide) (hts _ kX11_unit_0) (fun _ h9 => h9) rfl dX11_unit_173 ?_
          refine lv_iconst (v := (nI 1)) hx hb dX11_unit_176 rfl ?_
          refine lv_iadd hx hb dX11_unit_177 ?_
          refine va_put (D := D) (ci := 11) (ty := .int) (C := RX11) (T := TX11) (N := 16) hx hb hts qX11_unit_X11 tyX11 tyX11_ok nmX11 hown hK hP hD hS 1 rfl rfl 7 (by decide) (hts _ kX11_unit_0) (fun _ h9 => h9) rfl (by decide +kernel) rfl (by first | rfl | exact zz_fit) (Nat.le_of_ble_eq_true rfl) dX11_unit_178 (fun H locs hP hD hS => ?_)
          have hP : va_P D vwCl [(a_t_now, .inl (cI, 1562, .inl t_now)), (a_t, .inr (11, [.int t_thrown, .ref a_t_now, .ref a_t_kept, .int t_isKept, .ref a_t_text, .int t_length, .ref a_t_passing, .int (t_at_r7 + (nI 1)), .int t_fault, .int t_open, .int t_asked, .int t_byGun, .int t_prizeMost, .ref a_t_order, .ref a_t_times, .int t_listed])), (a_t_text, .inl (cB, 200, .inl t_text))] H := hP
          have hD : va_D A [(a_t_now, .inl (cI, 1562, .inl t_now)), (a_t, .inr (11, [.int t_thrown, .ref a_t_now, .ref a_t_kept, .int t_isKept, .ref a_t_text, .int t_length, .ref a_t_passing, .int (t_at_r7 + (nI 1)), .int t_fault, .int t_open, .int t_asked, .int t_byGun, .int t_prizeMost, .ref a_t_order, .ref a_t_times, .int t_listed])), (a_t_text, .inl (cB, 200, .inl t_text))] := hD
          refine lv_aload_n hx hb dX11_unit_181 rfl (lv_at hl 3 rfl) ?_
          obtain ⟨⟨r9, t_at_r10, t_fault_r11⟩, e12, h⟩ := zz_b h
          dsimp only at h
          refine zVi (As := []) (rest := []) (C := RX11) (wr := [(a_t_now, .inl (cI, 1562, .inl t_now))]) [1, 2] [0] 0 ⟨hx, hb, hml, hown, hts⟩ (mX11_number l D cB cI cZ a_t a_t_now a_t_kept a_t_text a_t_passing a_t_order a_t_times t_thrown t_isKept t_length (t_at_r7 + (nI 1)) t_fault t_open t_asked t_byGun t_prizeMost t_listed t_text H.size N r9 t_at_r10 t_fault_r11 e12) (cwV 0 hts gX11_unit_X11_number rfl rfl rfl (by decide +kernel) ⟨Nat.le_of_ble_eq_true rfl, Nat.le_of_ble_eq_true rfl⟩) hK hN hZ hP hD hS hA rfl rfl rfl rfl rfl rfl rfl rfl hl.1 rfl (lv_room (Nat.le_of_ble_eq_true rfl)) dX11_unit_182 ⟨Nat.le_of_ble_eq_true rfl, Nat.le_of_ble_eq_true rfl⟩ (fun H locs hP hD hS => ?_)
          have hP : va_P D vwCl [(a_t_now, .inl (cI, 1562, .inl t_now)), (a_t, .inr (11, [.int t_thrown, .ref a_t_now, .ref a_t_kept, .int t_isKept, .ref a_t_text, .int t_length, .ref a_t_passing, .int t_at_r10, .int t_fault_r11, .int t_open, .int t_asked, .int t_byGun, .int t_prizeMost, .ref a_t_order, .ref a_t_times, .int t_listed])), (a_t_text, .inl (cB, 200, .inl t_text))] H := hP
          have hD : va_D A [(a_t_now, .inl (cI, 1562, .inl t_now)), (a_t, .inr (11, [.int t_thrown, .ref a_t_now, .ref a_t_kept, .int t_isKept, .ref a_t_text, .int t_length, .ref a_t_passing, .int t_at_r10, .int t_fault_r11, .int t_open, .int t_asked, .int t_byGun, .int t_prizeMost, .ref a_t_order, .ref a_t_times, .int t_listed])), (a_t_text, .inl (cB, 200, .inl t_text))] := hD
          refine lv_istore (lv' := [(4, .int r9), (3, .int r6), (2, .int s0_j120), (1, .int r1), (0, .ref a_t)]) hx hb dX11_unit_185 hl (by decide) rfl (fun ls hl => ?_)
          refine lv_aload_n hx hb dX11_unit_187 rfl (lv_at hl 4 rfl) ?_
          refine va_get (D := D) (ci := 11) (C := RX11) (T := TX11) (N := 16) hx hb hts qX11_unit_X11 hown hK hP 1 rfl rfl 10 (by decide) (hts _ kX11_unit_2) (fun _ h9 => h9) rfl dX11_unit_188 ?_
          refine lv_iconst (v := (-1 : Int32)) hx hb dX11_unit_191 rfl ?_
          refine lv_icmp_ne (tgt := 199) hx hb dX11_unit_192 (by decide) (fun c13 => ?_) (fun c13 => ?_)
          · have h := zz_f h c13
            refine lv_aload_n hx hb dX11_unit_199 rfl (lv_at hl 4 rfl) ?_
            refine lv_aload_n hx hb dX11_unit_200 rfl (lv_at hl 4 rfl) ?_
            refine va_get (D := D) (ci := 11) (C := RX11) (T := TX11) (N := 16) hx hb hts qX11_unit_X11 hown hK hP 1 rfl rfl 10 (by decide) (hts _ kX11_unit_2) (fun _ h9 => h9) rfl dX11_unit_201 ?_
            refine lv_iload_n hx hb dX11_unit_204 rfl (lv_at hl 2 rfl) ?_
            obtain ⟨r14, e15, h⟩ := zz_b h
            refine zVi (As := [.int t_asked, .int s0_j120]) (rest := []) (C := RX11) (wr := [(a_t_text, .inl (cB, 200, .inl t_text))]) [1, 0] [2] 0 ⟨hx, hb, hml, hown, hts⟩ (mX11_of l D cB cI cZ a_t a_t_now a_t_kept a_t_text a_t_passing a_t_order a_t_times t_thrown t_isKept t_length t_at_r10 t_fault_r11 t_open t_asked t_byGun t_prizeMost t_listed t_now H.size t_asked s0_j120 r14 e15) (cwV 2 hts gX11_unit_X11_of rfl rfl rfl (by decide +kernel) ⟨Nat.le_of_ble_eq_true rfl, Nat.le_of_ble_eq_true rfl⟩) hK hN hZ hP hD hS hA rfl rfl rfl rfl rfl rfl rfl rfl hl.1 rfl (lv_room (Nat.le_of_ble_eq_true rfl)) dX11_unit_205 ⟨Nat.le_of_ble_eq_true rfl, Nat.le_of_ble_eq_true rfl⟩ (fun H locs hP hD hS => ?_)
            have hP : va_P D vwCl [(a_t_text, .inl (cB, 200, .inl t_text)), (a_t, .inr (11, [.int t_thrown, .ref a_t_now, .ref a_t_kept, .int t_isKept, .ref a_t_text, .int t_length, .ref a_t_passing, .int t_at_r10, .int t_fault_r11, .int t_open, .int t_asked, .int t_byGun, .int t_prizeMost, .ref a_t_order, .ref a_t_times, .int t_listed])), (a_t_now, .inl (cI, 1562, .inl t_now))] H := hP
            have hD : va_D A [(a_t_text, .inl (cB, 200, .inl t_text)), (a_t, .inr (11, [.int t_thrown, .ref a_t_now, .ref a_t_kept, .int t_isKept, .ref a_t_text, .int t_length, .ref a_t_passing, .int t_at_r10, .int t_fault_r11, .int t_open, .int t_asked, .int t_byGun, .int t_prizeMost, .ref a_t_order, .ref a_t_times, .int t_listed])), (a_t_now, .inl (cI, 1562, .inl t_now))] := hD
            refine lv_istore (lv' := [(5, .int r14), (4, .int r9), (3, .int r6), (2, .int s0_j120), (1, .int r1), (0, .ref a_t)]) hx hb dX11_unit_208 hl (by decide) rfl (fun ls hl => ?_)
            refine lv_iload_n hx hb dX11_unit_210 rfl (lv_at hl 2 rfl) ?_
            refine lv_bipush (v := (nI 61)) hx hb dX11_unit_211 rfl ?_
            refine lv_icmp_ne (tgt := 231) hx hb dX11_unit_213 (by decide) (fun c16 => ?_) (fun c16 => ?_)
            · have h := zz_f h c16
              refine lv_iload_n hx hb dX11_unit_231 rfl (lv_at hl 2 rfl) ?_
              refine lv_bipush (v := (nI 60)) hx hb dX11_unit_232 rfl ?_
              refine lv_icmp_ne (tgt := 252) hx hb dX11_unit_234 (by decide) (fun c17 => ?_) (fun c17 => ?_)
              · have h := zz_f h c17
                refine lv_iload hx hb dX11_unit_252 (lv_at hl 0 rfl) ?_
                refine lv_iload hx hb dX11_unit_254 (lv_at hl 1 rfl) ?_
                refine lv_icmp_le (tgt := 263) hx hb dX11_unit_256 (by decide) (fun c18 => ?_) (fun c18 => ?_)
                · have h := zz_t h c18
                  refine lv_iconst (v := (nI 0)) hx hb dX11_unit_263 rfl ?_
                  obtain ⟨j0_, g_⟩ := Prod.mk.inj (Option.some.inj h)
                  obtain ⟨j1_, g_⟩ := Prod.mk.inj g_
                  obtain ⟨j2_, g_⟩ := Prod.mk.inj g_
                  have j3_ := g_
                  subst j0_
                  subst j1_
                  subst j2_
                  subst j3_
                  exact W.zret (v := (nI 0)) hx hb hr rfl (fun t ht hW => ⟨⟨_, (), rfl, rfl, zPost.of hP hD hK ht hW [1, 2, 0] rfl rfl rfl⟩, hS.F ht⟩) hS.2.2 dX11_unit_264
                · have h := zz_f h c18
                  refine lv_iconst (v := (nI 1)) hx hb dX11_unit_259 rfl ?_
                  refine lv_goto (tgt := 264) hx hb dX11_unit_260 (by decide) ?_
                  obtain ⟨j0_, g_⟩ := Prod.mk.inj (Option.some.inj h)
                  obtain ⟨j1_, g_⟩ := Prod.mk.inj g_
                  obtain ⟨j2_, g_⟩ := Prod.mk.inj g_
                  have j3_ := g_
                  subst j0_
                  subst j1_
                  subst j2_
                  subst j3_
                  exact W.zret (v := (nI 1)) hx hb hr rfl (fun t ht hW => ⟨⟨_, (), rfl, rfl, zPost.of hP hD hK ht hW [1, 2, 0] rfl rfl rfl⟩, hS.F ht⟩) hS.2.2 dX11_unit_264
              · have h := zz_t h c17
                refine lv_iload hx hb dX11_unit_237 (lv_at hl 0 rfl) ?_
                refine lv_iload hx hb dX11_unit_239 (lv_at hl 1 rfl) ?_
                refine lv_icmp_ge (tgt := 248) hx hb dX11_unit_241 (by decide) (fun c19 => ?_) (fun c19 => ?_)
                · have h := zz_t h c19
                  refine lv_iconst (v := (nI 0)) hx hb dX11_unit_248 rfl ?_
                  refine lv_goto (tgt := 264) hx hb dX11_unit_249 (by decide) ?_
                  obtain ⟨j0_, g_⟩ := Prod.mk.inj (Option.some.inj h)
                  obtain ⟨j1_, g_⟩ := Prod.mk.inj g_
                  obtain ⟨j2_, g_⟩ := Prod.mk.inj g_
                  have j3_ := g_
                  subst j0_
                  subst j1_
                  subst j2_
                  subst j3_
                  exact W.zret (v := (nI 0)) hx hb hr rfl (fun t ht hW => ⟨⟨_, (), rfl, rfl, zPost.of hP hD hK ht hW [1, 2, 0] rfl rfl rfl⟩, hS.F ht⟩) hS.2.2 dX11_unit_264
                · have h := zz_f h c19
                  refine lv_iconst (v := (nI 1)) hx hb dX11_unit_244 rfl ?_
                  refine lv_goto (tgt := 264) hx hb dX11_unit_245 (by decide) ?_
                  obtain ⟨j0_, g_⟩ := Prod.mk.inj (Option.some.inj h)
                  obtain ⟨j1_, g_⟩ := Prod.mk.inj g_
                  obtain ⟨j2_, g_⟩ := Prod.mk.inj g_
                  have j3_ := g_
                  subst j0_
                  subst j1_
                  subst j2_
                  subst j3_
                  exact W.zret (v := (nI 1)) hx hb hr rfl (fun t ht hW => ⟨⟨_, (), rfl, rfl, zPost.of hP hD hK ht hW [1, 2, 0] rfl rfl rfl⟩, hS.F ht⟩) hS.2.2 dX11_unit_264
            · have h := zz_t h c16
              refine lv_iload hx hb dX11_unit_216 (lv_at hl 0 rfl) ?_
              refine lv_iload hx hb dX11_unit_218 (lv_at hl 1 rfl) ?_
              refine lv_icmp_ne (tgt := 227) hx hb dX11_unit_220 (by decide) (fun c20 => ?_) (fun c20 => ?_)
              · have h := zz_f h c20
                refine lv_iconst (v := (nI 0)) hx hb dX11_unit_227 rfl ?_
                refine lv_goto (tgt := 264) hx hb dX11_unit_228 (by decide) ?_
                obtain ⟨j0_, g_⟩ := Prod.mk.inj (Option.some.inj h)
                obtain ⟨j1_, g_⟩ := Prod.mk.inj g_
                obtain ⟨j2_, g_⟩ := Prod.mk.inj g_
                have j3_ := g_
                subst j0_
                subst j1_
                subst j2_
                subst j3_
                exact W.zret (v := (nI 0)) hx hb hr rfl (fun t ht hW => ⟨⟨_, (), rfl, rfl, zPost.of hP hD hK ht hW [1, 2, 0] rfl rfl rfl⟩, hS.F ht⟩) hS.2.2 dX11_unit_264
              · have h := zz_t h c20
                refine lv_iconst (v := (nI 1)) hx hb dX11_unit_223 rfl ?_
                refine lv_goto (tgt := 264) hx hb dX11_unit_224 (by decide) ?_
                obtain ⟨j0_, g_⟩ := Prod.mk.inj (Option.some.inj h)
                obtain ⟨j1_, g_⟩ := Prod.mk.inj g_
                obtain ⟨j2_, g_⟩ := Prod.mk.inj g_
                have j3_ := g_
                subst j0_
                subst j1_
                subst j2_
                subst j3_
                exact W.zret (v := (nI 1)) hx hb hr rfl (fun t ht hW => ⟨⟨_, (), rfl, rfl, zPost.of hP hD hK ht hW [1, 2, 0] rfl rfl rfl⟩, hS.F ht⟩) hS.2.2 dX11_unit_264
          · have h := zz_t h c13
            refine lv_iconst (v := (nI 0)) hx hb dX11_unit_195 rfl ?_
            refine lv_goto (tgt := 208) hx hb dX11_unit_196 (by decide) ?_
            refine lv_istore (lv' := [(5, .int (nI 0)), (4, .int r9), (3, .int r6), (2, .int s0_j120), (1, .int r1), (0, .ref a_t)]) hx hb dX11_unit_208 hl (by decide) rfl (fun ls hl => ?_)
            refine lv_iload_n hx hb dX11_unit_210 rfl (lv_at hl 2 rfl) ?_
            refine lv_bipush (v := (nI 61)) hx hb dX11_unit_211 rfl ?_
            refine lv_icmp_ne (tgt := 231) hx hb dX11_unit_213 (by decide) (fun c21 => ?_) (fun c21 => ?_)
            · have h := zz_f h c21
              refine lv_iload_n hx hb dX11_unit_231 rfl (lv_at hl 2 rfl) ?_
              refine lv_bipush (v := (nI 60)) hx hb dX11_unit_232 rfl ?_
              refine lv_icmp_ne (tgt := 252) hx hb dX11_unit_234 (by decide) (fun c22 => ?_) (fun c22 => ?_)
              · have h := zz_f h c22
                refine lv_iload hx hb dX11_unit_252 (lv_at hl 0 rfl) ?_
                refine lv_iload hx hb dX11_unit_254 (lv_at hl 1 rfl) ?_
                refine lv_icmp_le (tgt := 263) hx hb dX11_unit_256 (by decide) (fun c23 => ?_) (fun c23 => ?_)
                · have h := zz_t h c23
                  refine lv_iconst (v := (nI 0)) hx hb dX11_unit_263 rfl ?_
                  obtain ⟨j0_, g_⟩ := Prod.mk.inj (Option.some.inj h)
                  obtain ⟨j1_, g_⟩ := Prod.mk.inj g_
                  obtain ⟨j2_, g_⟩ := Prod.mk.inj g_
                  have j3_ := g_
                  subst j0_
                  subst j1_
                  subst j2_
                  subst j3_
                  exact W.zret (v := (nI 0)) hx hb hr rfl (fun t ht hW => ⟨⟨_, (), rfl, rfl, zPost.of hP hD hK ht hW [1, 0, 2] rfl rfl rfl⟩, hS.F ht⟩) hS.2.2 dX11_unit_264
                · have h := zz_f h c23
                  refine lv_iconst (v := (nI 1)) hx hb dX11_unit_259 rfl ?_
                  refine lv_goto (tgt := 264) hx hb dX11_unit_260 (by decide) ?_
                  obtain ⟨j0_, g_⟩ := Prod.mk.inj (Option.some.inj h)
                  obtain ⟨j1_, g_⟩ := Prod.mk.inj g_
                  obtain ⟨j2_, g_⟩ := Prod.mk.inj g_
                  have j3_ := g_
                  subst j0_
                  subst j1_
                  subst j2_
                  subst j3_
                  exact W.zret (v := (nI 1)) hx hb hr rfl (fun t ht hW => ⟨⟨_, (), rfl, rfl, zPost.of hP hD hK ht hW [1, 0, 2] rfl rfl rfl⟩, hS.F ht⟩) hS.2.2 dX11_unit_264
              · have h := zz_t h c22
                refine lv_iload hx hb dX11_unit_237 (lv_at hl 0 rfl) ?_
                refine lv_iload hx hb dX11_unit_239 (lv_at hl 1 rfl) ?_
                refine lv_icmp_ge (tgt := 248) hx hb dX11_unit_241 (by decide) (fun c24 => ?_) (fun c24 => ?_)
                · have h := zz_t h c24
                  refine lv_iconst (v := (nI 0)) hx hb dX11_unit_248 rfl ?_
                  refine lv_goto (tgt := 264) hx hb dX11_unit_249 (by decide) ?_
                  obtain ⟨j0_, g_⟩ := Prod.mk.inj (Option.some.inj h)
                  obtain ⟨j1_, g_⟩ := Prod.mk.inj g_
                  obtain ⟨j2_, g_⟩ := Prod.mk.inj g_
                  have j3_ := g_
                  subst j0_
                  subst j1_
                  subst j2_
                  subst j3_
                  exact W.zret (v := (nI 0)) hx hb hr rfl (fun t ht hW => ⟨⟨_, (), rfl, rfl, zPost.of hP hD hK ht hW [1, 0, 2] rfl rfl rfl⟩, hS.F ht⟩) hS.2.2 dX11_unit_264
                · have h := zz_f h c24
                  refine lv_iconst (v := (nI 1)) hx hb dX11_unit_244 rfl ?_
                  refine lv_goto (tgt := 264) hx hb dX11_unit_245 (by decide) ?_
                  obtain ⟨j0_, g_⟩ := Prod.mk.inj (Option.some.inj h)
                  obtain ⟨j1_, g_⟩ := Prod.mk.inj g_
                  obtain ⟨j2_, g_⟩ := Prod.mk.inj g_
                  have j3_ := g_
                  subst j0_
                  subst j1_
                  subst j2_
                  subst j3_
                  exact W.zret (v := (nI 1)) hx hb hr rfl (fun t ht hW => ⟨⟨_, (), rfl, rfl, zPost.of hP hD hK ht hW [1, 0, 2] rfl rfl rfl⟩, hS.F ht⟩) hS.2.2 dX11_unit_264
            · have h := zz_t h c21
              refine lv_iload hx hb dX11_unit_216 (lv_at hl 0 rfl) ?_
              refine lv_iload hx hb dX11_unit_218 (lv_at hl 1 rfl) ?_
              refine lv_icmp_ne (tgt := 227) hx hb dX11_unit_220 (by decide) (fun c25 => ?_) (fun c25 => ?_)
              · have h := zz_f h c25
                refine lv_iconst (v := (nI 0)) hx hb dX11_unit_227 rfl ?_
                refine lv_goto (tgt := 264) hx hb dX11_unit_228 (by decide) ?_
                obtain ⟨j0_, g_⟩ := Prod.mk.inj (Option.some.inj h)
                obtain ⟨j1_, g_⟩ := Prod.mk.inj g_
                obtain ⟨j2_, g_⟩ := Prod.mk.inj g_
                have j3_ := g_
                subst j0_
                subst j1_
                subst j2_
                subst j3_
                exact W.zret (v := (nI 0)) hx hb hr rfl (fun t ht hW => ⟨⟨_, (), rfl, rfl, zPost.of hP hD hK ht hW [1, 0, 2] rfl rfl rfl⟩, hS.F ht⟩) hS.2.2 dX11_unit_264
              · have h := zz_t h c25
                refine lv_iconst (v := (nI 1)) hx hb dX11_unit_223 rfl ?_
                refine lv_goto (tgt := 264) hx hb dX11_unit_224 (by decide) ?_
                obtain ⟨j0_, g_⟩ := Prod.mk.inj (Option.some.inj h)
                obtain ⟨j1_, g_⟩ := Prod.mk.inj g_
                obtain ⟨j2_, g_⟩ := Prod.mk.inj g_
                have j3_ := g_
                subst j0_
                subst j1_
                subst j2_
                subst j3_
                exact W.zret (v := (nI 1)) hx hb hr rfl (fun t ht hW => ⟨⟨_, (), rfl, rfl, zPost.of hP hD hK ht hW [1, 0, 2] rfl rfl rfl⟩, hS.F ht⟩) hS.2.2 dX11_unit_264
        refine lv_icmp_eq (tgt := 171) hx hb dX11_unit_150 (by decide) (fun c26 => ?_) (fun c26 => ?_)
        · have h := zz_t h c26
          exact J171  _ _ _ h (hP.sub [0, 1, 2] rfl) (hD.sub [0, 1, 2] rfl rfl) hS (lv_sub hl [0, 1, 2, 3] rfl)
        · have h := zz_f h c26
          refine lv_iload_n hx hb dX11_unit_153 rfl (lv_at hl 0 rfl) ?_
          refine lv_bipush (v := (nI 60)) hx hb dX11_unit_154 rfl ?_
          refine lv_icmp_eq (tgt := 171) hx hb dX11_unit_156 (by decide) (fun c27 => ?_) (fun c27 => ?_)
          · have h := zz_t h c27
            exact J171  _ _ _ h (hP.sub [0, 1, 2] rfl) (hD.sub [0, 1, 2] rfl rfl) hS (lv_sub hl [0, 1, 2, 3] rfl)
          · have h := zz_f h c27
            refine lv_iload_n hx hb dX11_unit_159 rfl (lv_at hl 0 rfl) ?_
            refine lv_bipush (v := (nI 62)) hx hb dX11_unit_160 rfl ?_
            refine lv_icmp_eq (tgt := 171) hx hb dX11_unit_162 (by decide) (fun c28 => ?_) (fun c28 => ?_)
            · have h := zz_t h c28
              exact J171  _ _ _ h (hP.sub [0, 1, 2] rfl) (hD.sub [0, 1, 2] rfl rfl) hS (lv_sub hl [0, 1, 2, 3] rfl)
            · have h := zz_f h c28
              refine lv_aload_n hx hb dX11_unit_165 rfl (lv_at hl 3 rfl) ?_
              obtain ⟨t_fault_r29, e30, h⟩ := zz_b h
              refine zVv (As := []) (rest := []) (C := RX11) (wr := [(a_t_now, .inl (cI, 1562, .inl t_now)), (a_t_text, .inl (cB, 200, .inl t_text))]) [1] [0, 2] 0 ⟨hx, hb, hml, hown, hts⟩ (mX11_wrong l D cB cI cZ a_t a_t_now a_t_kept a_t_text a_t_passing a_t_order a_t_times t_thrown t_isKept t_length t_at_r7 t_fault t_open t_asked t_byGun t_prizeMost t_listed H.size t_fault_r29 e30) (cwV 0 hts gX11_unit_X11_wrong rfl rfl rfl (by decide +kernel) ⟨Nat.le_of_ble_eq_true rfl, Nat.le_of_ble_eq_true rfl⟩) hK hN hZ hP hD hS hA rfl rfl rfl rfl rfl rfl rfl rfl hl.1 rfl (lv_room (Nat.le_of_ble_eq_true rfl)) dX11_unit_166 ⟨Nat.le_of_ble_eq_true rfl, Nat.le_of_ble_eq_true rfl⟩ (fun H locs hP hD hS => ?_)
              have hP : va_P D vwCl [(a_t_now, .inl (cI, 1562, .inl t_now)), (a_t_text, .inl (cB, 200, .inl t_text)), (a_t, .inr (11, [.int t_thrown, .ref a_t_now, .ref a_t_kept, .int t_isKept, .ref a_t_text, .int t_length, .ref a_t_passing, .int t_at_r7, .int t_fault_r29, .int t_open, .int t_asked, .int t_byGun, .int t_prizeMost, .ref a_t_order, .ref a_t_times, .int t_listed]))] H := hP
              have hD : va_D A [(a_t_now, .inl (cI, 1562, .inl t_now)), (a_t_text, .inl (cB, 200, .inl t_text)), (a_t, .inr (11, [.int t_thrown, .ref a_t_now, .ref a_t_kept, .int t_isKept, .ref a_t_text, .int t_length, .ref a_t_passing, .int t_at_r7, .int t_fault_r29, .int t_open, .int t_asked, .int t_byGun, .int t_prizeMost, .ref a_t_order, .ref a_t_times, .int t_listed]))] := hD
              refine lv_iconst (v := (nI 0)) hx hb dX11_unit_169 rfl ?_
              obtain ⟨j0_, g_⟩ := Prod.mk.inj (Option.some.inj h)
              obtain ⟨j1_, g_⟩ := Prod.mk.inj g_
              obtain ⟨j2_, g_⟩ := Prod.mk.inj g_
              have j3_ := g_
              subst j0_
              subst j1_
              subst j2_
              subst j3_
              exact W.zret (v := (nI 0)) hx hb hr rfl (fun t ht hW => ⟨⟨_, (), rfl, rfl, zPost.of hP hD hK ht hW [2, 0, 1] rfl rfl rfl⟩, hS.F ht⟩) hS.2.2 dX11_unit_170
      · have h := zz_t h c5
        refine lv_aload_n hx hb dX11_unit_126 rfl (lv_at hl 2 rfl) ?_
        obtain ⟨t_fault_r31, e32, h⟩ := zz_b h
        refine zVv (As := []) (rest := []) (C := RX11) (wr := [(a_t_now, .inl (cI, 1562, .inl t_now)), (a_t_text, .inl (cB, 200, .inl t_text))]) [1] [0, 2] 0 ⟨hx, hb, hml, hown, hts⟩ (mX11_wrong l D cB cI cZ a_t a_t_now a_t_kept a_t_text a_t_passing a_t_order a_t_times t_thrown t_isKept t_length t_at_r2 t_fault t_open t_asked t_byGun t_prizeMost t_listed H.size t_fault_r31 e32) (cwV 0 hts gX11_unit_X11_wrong rfl rfl rfl (by decide +kernel) ⟨Nat.le_of_ble_eq_true rfl, Nat.le_of_ble_eq_true rfl⟩) hK hN hZ hP hD hS hA rfl rfl rfl rfl rfl rfl rfl rfl hl.1 rfl (lv_room (Nat.le_of_ble_eq_true rfl)) dX11_unit_127 ⟨Nat.le_of_ble_eq_true rfl, Nat.le_of_ble_eq_true rfl⟩ (fun H locs hP hD hS => ?_)
        have hP : va_P D vwCl [(a_t_now, .inl (cI, 1562, .inl t_now)), (a_t_text, .inl (cB, 200, .inl t_text)), (a_t, .inr (11, [.int t_thrown, .ref a_t_now, .ref a_t_kept, .int t_isKept, .ref a_t_text, .int t_length, .ref a_t_passing, .int t_at_r2, .int t_fault_r31, .int t_open, .int t_asked, .int t_byGun, .int t_prizeMost, .ref a_t_order, .ref a_t_times, .int t_listed]))] H := hP
        have hD : va_D A [(a_t_now, .inl (cI, 1562, .inl t_now)), (a_t_text, .inl (cB, 200, .inl t_text)), (a_t, .inr (11, [.int t_thrown, .ref a_t_now, .ref a_t_kept, .int t_isKept, .ref a_t_text, .int t_length, .ref a_t_passing, .int t_at_r2, .int t_fault_r31, .int t_open, .int t_asked, .int t_byGun, .int t_prizeMost, .ref a_t_order, .ref a_t_times, .int t_listed]))] := hD
        refine lv_iconst (v := (nI 0)) hx hb dX11_unit_130 rfl ?_
        obtain ⟨j0_, g_⟩ := Prod.mk.inj (Option.some.inj h)
        obtain ⟨j1_, g_⟩ := Prod.mk.inj g_
        obtain ⟨j2_, g_⟩ := Prod.mk.inj g_
        have j3_ := g_
        subst j0_
        subst j1_
        subst j2_
        subst j3_
        exact W.zret (v := (nI 0)) hx hb hr rfl (fun t ht hW => ⟨⟨_, (), rfl, rfl, zPost.of hP hD hK ht hW [2, 0, 1] rfl rfl rfl⟩, hS.F ht⟩) hS.2.2 dX11_unit_131
    refine lv_icmp_ne (tgt := 79) hx hb dX11_unit_72 (by decide) (fun c33 => ?_) (fun c33 => ?_)
    · have h := zz_f h c33
      refine lv_iload_n hx hb dX11_unit_79 rfl (lv_at hl 0 rfl) ?_
      refine lv_bipush (v := (nI 121)) hx hb dX11_unit_80 rfl ?_
      refine lv_icmp_ne (tgt := 89) hx hb dX11_unit_82 (by decide) (fun c34 => ?_) (fun c34 => ?_)
      · have h := zz_f h c34
        refine lv_iload_n hx hb dX11_unit_89 rfl (lv_at hl 0 rfl) ?_
        refine lv_bipush (v := (nI 116)) hx hb dX11_unit_90 rfl ?_
        refine lv_icmp_ne (tgt := 99) hx hb dX11_unit_92 (by decide) (fun c35 => ?_) (fun c35 => ?_)
        · have h := zz_f h c35
          refine lv_iload_n hx hb dX11_unit_99 rfl (lv_at hl 0 rfl) ?_
          refine lv_bipush (v := (nI 112)) hx hb dX11_unit_100 rfl ?_
          refine lv_icmp_ne (tgt := 109) hx hb dX11_unit_102 (by decide) (fun c36 => ?_) (fun c36 => ?_)
          · have h := zz_f h c36
            refine lv_iload_n hx hb dX11_unit_109 rfl (lv_at hl 0 rfl) ?_
            refine lv_bipush (v := (nI 107)) hx hb dX11_unit_110 rfl ?_
            refine lv_icmp_ne (tgt := 119) hx hb dX11_unit_112 (by decide) (fun c37 => ?_) (fun c37 => ?_)
            · have h := zz_f h c37
              refine lv_iconst (v := (-1 : Int32)) hx hb dX11_unit_119 rfl ?_
              exact J120 (-1 : Int32) _ _ _ h (hP.sub [0, 1, 2] rfl) (hD.sub [0, 1, 2] rfl rfl) hS (lv_sub hl [0, 1] rfl)
            · have h := zz_t h c37
              refine lv_iconst (v := (nI 0)) hx hb dX11_unit_115 rfl ?_
              refine lv_goto (tgt := 120) hx hb dX11_unit_116 (by decide) ?_
              exact J120 (nI 0) _ _ _ h (hP.sub [0, 1, 2] rfl) (hD.sub [0, 1, 2] rfl rfl) hS (lv_sub hl [0, 1] rfl)
          · have h := zz_t h c36
            refine lv_iconst (v := (nI 5)) hx hb dX11_unit_105 rfl ?_
            refine lv_goto (tgt := 120) hx hb dX11_unit_106 (by decide) ?_
            exact J120 (nI 5) _ _ _ h (hP.sub [0, 1, 2] rfl) (hD.sub [0, 1, 2] rfl rfl) hS (lv_sub hl [0, 1] rfl)
        · have h := zz_t h c35
          refine lv_iconst (v := (nI 4)) hx hb dX11_unit_95 rfl ?_
          refine lv_goto (tgt := 120) hx hb dX11_unit_96 (by decide) ?_
          exact J120 (nI 4) _ _ _ h (hP.sub [0, 1, 2] rfl) (hD.sub [0, 1, 2] rfl rfl) hS (lv_sub hl [0, 1] rfl)
      · have h := zz_t h c34
        refine lv_iconst (v := (nI 2)) hx hb dX11_unit_85 rfl ?_
        refine lv_goto (tgt := 120) hx hb dX11_unit_86 (by decide) ?_
        exact J120 (nI 2) _ _ _ h (hP.sub [0, 1, 2] rfl) (hD.sub [0, 1, 2] rfl rfl) hS (lv_sub hl [0, 1] rfl)
    · have h := zz_t h c33
      refine lv_iconst (v := (nI 3)) hx hb dX11_unit_75 rfl ?_
      refine lv_goto (tgt := 120) hx hb dX11_unit_76 (by decide) ?_
      exact J120 (nI 3) _ _ _ h (hP.sub [0, 1, 2] rfl) (hD.sub [0, 1, 2] rfl rfl) hS (lv_sub hl [0, 1] rfl)
  · have h := zz_t h c4
    refine lv_aload_n hx hb dX11_unit_11 rfl (lv_at hl 1 rfl) ?_
    refine va_get (D := D) (ci := 11) (C := RX11) (T := TX11) (N := 16) hx hb hts qX11_unit_X11 hown hK hP 1 rfl rfl 9 (by decide) (hts _ kX11_unit_3) (fun _ h9 => h9) rfl dX11_unit_12 ?_
    refine lv_bipush (v := (nI 8)) hx hb dX11_unit_15 rfl ?_
    refine lv_icmp_ne (tgt := 26) hx hb dX11_unit_17 (by decide) (fun c38 => ?_) (fun c38 => ?_)
    · have h := zz_f h c38
      refine lv_aload_n hx hb dX11_unit_26 rfl (lv_at hl 1 rfl) ?_
      refine lv_dup hx hb dX11_unit_27 rfl ?_
      refine va_get (D := D) (ci := 11) (C := RX11) (T := TX11) (N := 16) hx hb hts qX11_unit_X11 hown hK hP 1 rfl rfl 9 (by decide) (hts _ kX11_unit_3) (fun _ h9 => h9) rfl dX11_unit_28 ?_
      refine lv_iconst (v := (nI 1)) hx hb dX11_unit_31 rfl ?_
      refine lv_iadd hx hb dX11_unit_32 ?_
      refine va_put (D := D) (ci := 11) (ty := .int) (C := RX11) (T := TX11) (N := 16) hx hb hts qX11_unit_X11 tyX11 tyX11_ok nmX11 hown hK hP hD hS 1 rfl rfl 9 (by decide) (hts _ kX11_unit_3) (fun _ h9 => h9) rfl (by decide +kernel) rfl (by first | rfl | exact zz_fit) (Nat.le_of_ble_eq_true rfl) dX11_unit_33 (fun H locs hP hD hS => ?_)
      have hP : va_P D vwCl [(a_t_now, .inl (cI, 1562, .inl t_now)), (a_t, .inr (11, [.int t_thrown, .ref a_t_now, .ref a_t_kept, .int t_isKept, .ref a_t_text, .int t_length, .ref a_t_passing, .int t_at_r2, .int t_fault, .int (t_open + (nI 1)), .int t_asked, .int t_byGun, .int t_prizeMost, .ref a_t_order, .ref a_t_times, .int t_listed])), (a_t_text, .inl (cB, 200, .inl t_text))] H := hP
      have hD : va_D A [(a_t_now, .inl (cI, 1562, .inl t_now)), (a_t, .inr (11, [.int t_thrown, .ref a_t_now, .ref a_t_kept, .int t_isKept, .ref a_t_text, .int t_length, .ref a_t_passing, .int t_at_r2, .int t_fault, .int (t_open + (nI 1)), .int t_asked, .int t_byGun, .int t_prizeMost, .ref a_t_order, .ref a_t_times, .int t_listed])), (a_t_text, .inl (cB, 200, .inl t_text))] := hD
      refine lv_aload_n hx hb dX11_unit_36 rfl (lv_at hl 1 rfl) ?_
      refine lv_dup hx hb dX11_unit_37 rfl ?_
      refine va_get (D := D) (ci := 11) (C := RX11) (T := TX11) (N := 16) hx hb hts qX11_unit_X11 hown hK hP 1 rfl rfl 7 (by decide) (hts _ kX11_unit_0) (fun _ h9 => h9) rfl dX11_unit_38 ?_
      refine lv_iconst (v := (nI 1)) hx hb dX11_unit_41 rfl ?_
      refine lv_iadd hx hb dX11_unit_42 ?_
      refine va_put (D := D) (ci := 11) (ty := .int) (C := RX11) (T := TX11) (N := 16) hx hb hts qX11_unit_X11 tyX11 tyX11_ok nmX11 hown hK hP hD hS 1 rfl rfl 7 (by decide) (hts _ kX11_unit_0) (fun _ h9 => h9) rfl (by decide +kernel) rfl (by first | rfl | exact zz_fit) (Nat.le_of_ble_eq_true rfl) dX11_unit_43 (fun H locs hP hD hS => ?_)
      have hP : va_P D vwCl [(a_t_now, .inl (cI, 1562, .inl t_now)), (a_t, .inr (11, [.int t_thrown, .ref a_t_now, .ref a_t_kept, .int t_isKept, .ref a_t_text, .int t_length, .ref a_t_passing, .int (t_at_r2 + (nI 1)), .int t_fault, .int (t_open + (nI 1)), .int t_asked, .int t_byGun, .int t_prizeMost, .ref a_t_order, .ref a_t_times, .int t_listed])), (a_t_text, .inl (cB, 200, .inl t_text))] H := hP
      have hD : va_D A [(a_t_now, .inl (cI, 1562, .inl t_now)), (a_t, .inr (11, [.int t_thrown, .ref a_t_now, .ref a_t_kept, .int t_isKept, .ref a_t_text, .int t_length, .ref a_t_passing, .int (t_at_r2 + (nI 1)), .int t_fault, .int (t_open + (nI 1)), .int t_asked, .int t_byGun, .int t_prizeMost, .ref a_t_order, .ref a_t_times, .int t_listed])), (a_t_text, .inl (cB, 200, .inl t_text))] := hD
      refine lv_aload_n hx hb dX11_unit_46 rfl (lv_at hl 1 rfl) ?_
      obtain ⟨⟨b39, t_at_r40, t_fault_r41, t_open_r42⟩, e43, h⟩ := zz_b h
      dsimp only at h
      refine zVi (As := []) (rest := []) (C := RX11) (wr := []) [1, 0, 2] [] 0 ⟨hx, hb, hml, hown, hts⟩ (mX11_tests_3 l D cB cI cZ a_t a_t_now a_t_kept a_t_text a_t_passing a_t_order a_t_times t_thrown t_isKept t_length (t_at_r2 + (nI 1)) t_fault (t_open + (nI 1)) t_asked t_byGun t_prizeMost t_listed t_now t_text H.size N b39 t_at_r40 t_fault_r41 t_open_r42 (hT ▸ e43)) (cwV 0 hts gX11_unit_X11_tests rfl rfl rfl (by decide +kernel) ⟨Nat.le_of_ble_eq_true rfl, Nat.le_of_ble_eq_true rfl⟩) hK hN hZ hP hD hS hA rfl rfl rfl rfl rfl rfl rfl rfl hl.1 rfl (lv_room (Nat.le_of_ble_eq_true rfl)) dX11_unit_47 ⟨Nat.le_of_ble_eq_true rfl, Nat.le_of_ble_eq_true rfl⟩ (fun H locs hP hD hS => ?_)
      have hP : va_P D vwCl [(a_t, .inr (11, [.int t_thrown, .ref a_t_now, .ref a_t_kept, .int t_isKept, .ref a_t_text, .int t_length, .ref a_t_passing, .int t_at_r40, .int t_fault_r41, .int t_open_r42, .int t_asked, .int t_byGun, .int t_prizeMost, .ref a_t_order, .ref a_t_times, .int t_listed])), (a_t_now, .inl (cI, 1562, .inl t_now)), (a_t_text, .inl (cB, 200, .inl t_text))] H := hP
      have hD : va_D A [(a_t, .inr (11, [.int t_thrown, .ref a_t_now, .ref a_t_kept, .int t_isKept, .ref a_t_text, .int t_length, .ref a_t_passing, .int t_at_r40, .int t_fault_r41, .int t_open_r42, .int t_asked, .int t_byGun, .int t_prizeMost, .ref a_t_order, .ref a_t_times, .int t_listed])), (a_t_now, .inl (cI, 1562, .inl t_now)), (a_t_text, .inl (cB, 200, .inl t_text))] := hD
      refine lv_istore_n (lv' := [(2, .int (zb b39)), (1, .int r1), (0, .ref a_t)]) hx hb dX11_unit_50 rfl hl (by decide) rfl (fun ls hl => ?_)
      refine lv_aload_n hx hb dX11_unit_51 rfl (lv_at hl 2 rfl) ?_
      refine lv_bipush (v := (nI 41)) hx hb dX11_unit_52 rfl ?_
      obtain ⟨⟨t_at_r44, t_fault_r45⟩, e46, h⟩ := zz_b h
      dsimp only at h
      refine zVv (As := [.int (nI 41)]) (rest := []) (C := RX11) (wr := [(a_t_now, .inl (cI, 1562, .inl t_now))]) [0, 2] [1] 0 ⟨hx, hb, hml, hown, hts⟩ (mX11_sign l D cB cI cZ a_t a_t_now a_t_kept a_t_text a_t_passing a_t_order a_t_times t_thrown t_isKept t_length t_at_r40 t_fault_r41 t_open_r42 t_asked t_byGun t_prizeMost t_listed t_text H.size (nI 41) N t_at_r44 t_fault_r45 e46) (cwV 1 hts gX11_unit_X11_sign rfl rfl rfl (by decide +kernel) ⟨Nat.le_of_ble_eq_true rfl, Nat.le_of_ble_eq_true rfl⟩) hK hN hZ hP hD hS hA rfl rfl rfl rfl rfl rfl rfl rfl hl.1 rfl (lv_room (Nat.le_of_ble_eq_true rfl)) dX11_unit_54 ⟨Nat.le_of_ble_eq_true rfl, Nat.le_of_ble_eq_true rfl⟩ (fun H locs hP hD hS => ?_)
      have hP : va_P D vwCl [(a_t_now, .inl (cI, 1562, .inl t_now)), (a_t, .inr (11, [.int t_thrown, .ref a_t_now, .ref a_t_kept, .int t_isKept, .ref a_t_text, .int t_length, .ref a_t_passing, .int t_at_r44, .int t_fault_r45, .int t_open_r42, .int t_asked, .int t_byGun, .int t_prizeMost, .ref a_t_order, .ref a_t_times, .int t_listed])), (a_t_text, .inl (cB, 200, .inl t_text))] H := hP
      have hD : va_D A [(a_t_now, .inl (cI, 1562, .inl t_now)), (a_t, .inr (11, [.int t_thrown, .ref a_t_now, .ref a_t_kept, .int t_isKept, .ref a_t_text, .int t_length, .ref a_t_passing, .int t_at_r44, .int t_fault_r45, .int t_open_r42, .int t_asked, .int t_byGun, .int t_prizeMost, .ref a_t_order, .ref a_t_times, .int t_listed])), (a_t_text, .inl (cB, 200, .inl t_text))] := hD
      refine lv_aload_n hx hb dX11_unit_57 rfl (lv_at hl 2 rfl) ?_
      refine lv_dup hx hb dX11_unit_58 rfl ?_
      refine va_get (D := D) (ci := 11) (C := RX11) (T := TX11) (N := 16) hx hb hts qX11_unit_X11 hown hK hP 1 rfl rfl 9 (by decide) (hts _ kX11_unit_3) (fun _ h9 => h9) rfl dX11_unit_59 ?_
      refine lv_iconst (v := (nI 1)) hx hb dX11_unit_62 rfl ?_
      refine lv_isub hx hb dX11_unit_63 ?_
      refine va_put (D := D) (ci := 11) (ty := .int) (C := RX11) (T := TX11) (N := 16) hx hb hts qX11_unit_X11 tyX11 tyX11_ok nmX11 hown hK hP hD hS 1 rfl rfl 9 (by decide) (hts _ kX11_unit_3) (fun _ h9 => h9) rfl (by decide +kernel) rfl (by first | rfl | exact zz_fit) (Nat.le_of_ble_eq_true rfl) dX11_unit_64 (fun H locs hP hD hS => ?_)
      have hP : va_P D vwCl [(a_t_now, .inl (cI, 1562, .inl t_now)), (a_t, .inr (11, [.int t_thrown, .ref a_t_now, .ref a_t_kept, .int t_isKept, .ref a_t_text, .int t_length, .ref a_t_passing, .int t_at_r44, .int t_fault_r45, .int (t_open_r42 - (nI 1)), .int t_asked, .int t_byGun, .int t_prizeMost, .ref a_t_order, .ref a_t_times, .int t_listed])), (a_t_text, .inl (cB, 200, .inl t_text))] H := hP
      have hD : va_D A [(a_t_now, .inl (cI, 1562, .inl t_now)), (a_t, .inr (11, [.int t_thrown, .ref a_t_now, .ref a_t_kept, .int t_isKept, .ref a_t_text, .int t_length, .ref a_t_passing, .int t_at_r44, .int t_fault_r45, .int (t_open_r42 - (nI 1)), .int t_asked, .int t_byGun, .int t_prizeMost, .ref a_t_order, .ref a_t_times, .int t_listed])), (a_t_text, .inl (cB, 200, .inl t_text))] := hD
      refine lv_iload_n hx hb dX11_unit_67 rfl (lv_at hl 0 rfl) ?_
      obtain ⟨j0_, g_⟩ := Prod.mk.inj (Option.some.inj h)
      obtain ⟨j1_, g_⟩ := Prod.mk.inj g_
      obtain ⟨j2_, g_⟩ := Prod.mk.inj g_
      have j3_ := g_
      subst j0_
      subst j1_
      subst j2_
      subst j3_
      exact W.zret (v := (zb b39)) hx hb hr zz_n (fun t ht hW => ⟨⟨_, (), rfl, rfl, zPost.of hP hD hK ht hW [1, 0, 2] rfl rfl rfl⟩, hS.F ht⟩) hS.2.2 dX11_unit_68
    · have h := zz_t h c38
      refine lv_aload_n hx hb dX11_unit_20 rfl (lv_at hl 1 rfl) ?_
      obtain ⟨t_fault_r47, e48, h⟩ := zz_b h
      refine zVv (As := []) (rest := []) (C := RX11) (wr := [(a_t_now, .inl (cI, 1562, .inl t_now)), (a_t_text, .inl (cB, 200, .inl t_text))]) [1] [0, 2] 0 ⟨hx, hb, hml, hown, hts⟩ (mX11_wrong l D cB cI cZ a_t a_t_now a_t_kept a_t_text a_t_passing a_t_order a_t_times t_thrown t_isKept t_length t_at_r2 t_fault t_open t_asked t_byGun t_prizeMost t_listed H.size t_fault_r47 e48) (cwV 0 hts gX11_unit_X11_wrong rfl rfl rfl (by decide +kernel) ⟨Nat.le_of_ble_eq_true rfl, Nat.le_of_ble_eq_true rfl⟩) hK hN hZ hP hD hS hA rfl rfl rfl rfl rfl rfl rfl rfl hl.1 rfl (lv_room (Nat.le_of_ble_eq_true rfl)) dX11_unit_21 ⟨Nat.le_of_ble_eq_true rfl, Nat.le_of_ble_eq_true rfl⟩ (fun H locs hP hD hS => ?_)
      have hP : va_P D vwCl [(a_t_now, .inl (cI, 1562, .inl t_now)), (a_t_text, .inl (cB, 200, .inl t_text)), (a_t, .inr (11, [.int t_thrown, .ref a_t_now, .ref a_t_kept, .int t_isKept, .ref a_t_text, .int t_length, .ref a_t_passing, .int t_at_r2, .int t_fault_r47, .int t_open, .int t_asked, .int t_byGun, .int t_prizeMost, .ref a_t_order, .ref a_t_times, .int t_listed]))] H := hP
      have hD : va_D A [(a_t_now, .inl (cI, 1562, .inl t_now)), (a_t_text, .inl (cB, 200, .inl t_text)), (a_t, .inr (11, [.int t_thrown, .ref a_t_now, .ref a_t_kept, .int t_isKept, .ref a_t_text, .int t_length, .ref a_t_passing, .int t_at_r2, .int t_fault_r47, .int t_open, .int t_asked, .int t_byGun, .int t_prizeMost, .ref a_t_order, .ref a_t_times, .int t_listed]))] := hD
      refine lv_iconst (v := (nI 0)) hx hb dX11_unit_24 rfl ?_
      obtain ⟨j0_, g_⟩ := Prod.mk.inj (Option.some.inj h)
      obtain ⟨j1_, g_⟩ := Prod.mk.inj g_
      obtain ⟨j2_, g_⟩ := Prod.mk.inj g_
      have j3_ := g_
      subst j0_
      subst j1_
      subst j2_
      subst j3_
      exact W.zret (v := (nI 0)) hx hb hr rfl (fun t ht hW => ⟨⟨_, (), rfl, rfl, zPost.of hP hD hK ht hW [2, 0, 1] rfl rfl rfl⟩, hS.F ht⟩) hS.2.2 dX11_unit_25
set_option maxHeartbeats 4000000 in
set_option maxRecDepth 100000 in
theorem mX11_part_4 (l : Launch) (D : va_G) (cB cI cZ : ClassId) (a_t : Nat) (a_t_now : Nat) (a_t_kept : Nat) (a_t_text : Nat) (a_t_passing : Nat) (a_t_order : Nat) (a_t_times : Nat) (t_thrown : Int32) (t_isKept : Int32) (t_length : Int32) (t_at : Int32) (t_fault : Int32) (t_open : Int32) (t_asked : Int32) (t_byGun : Int32) (t_prizeMost : Int32) (t_listed : Int32) (t_now : Nat → Int32) (t_text : Nat → Int32) (sz : Nat) (N : Nat) (T : Int32 → Int32 → Int32 → Int32 → Int32 → (Nat → Int32) → (Nat → Int32) → Option (Bool × Int32 × Int32 × Int32)) (hT : T = fX11_testsD N 4) (b0 : Bool) (t_at' : Int32) (t_fault' : Int32) (t_open' : Int32) (h : fX11_part T N t_asked t_at t_fault t_length t_open t_now t_text = some (b0, t_at', t_fault', t_open')) : Met l yX11_part wsX11_part ({ frames := 15, cells := 0, slots := 0, locals := 343 } : Room) (va_Pc [.ref a_t] (zPre D (zT cB cI cZ) [(a_t, .inr (11, [.int t_thrown, .ref a_t_now, .ref a_t_kept, .int t_isKept, .ref a_t_text, .int t_length, .ref a_t_passing, .int t_at, .int t_fault, .int t_open, .int t_asked, .int t_byGun, .int t_prizeMost, .ref a_t_order, .ref a_t_times, .int t_listed])), (a_t_now, .inl (cI, 1562, .inl t_now)), (a_t_text, .inl (cB, 200, .inl t_text))] sz)) (zQi (zb b0) D (zT cB cI cZ) [(a_t, .inr (11, [.int t_thrown, .ref a_t_now, .ref a_t_kept, .int t_isKept, .ref a_t_text, .int t_length, .ref a_t_passing, .int t_at', .int t_fault', .int t_open', .int t_asked, .int t_byGun, .int t_prizeMost, .ref a_t_order, .ref a_t_times, .int t_listed])), (a_t_now, .inl (cI, 1562, .inl t_now)), (a_t_text, .inl (cB, 200, .inl t_text))] (va_A [(a_t, .inr (11, [.int t_thrown, .ref a_t_now, .ref a_t_kept, .int t_isKept, .ref a_t_text, .int t_length, .ref a_t_passing, .int t_at, .int t_fault, .int t_open, .int t_asked, .int t_byGun, .int t_prizeMost, .ref a_t_order, .ref a_t_times, .int t_listed])), (a_t_now, .inl (cI, 1562, .inl t_now)), (a_t_text, .inl (cB, 200, .inl t_text))] sz)) 0 0 (va_A [(a_t, .inr (11, [.int t_thrown, .ref a_t_now, .ref a_t_kept, .int t_isKept, .ref a_t_text, .int t_length, .ref a_t_passing, .int t_at, .int t_fault, .int t_open, .int t_asked, .int t_byGun, .int t_prizeMost, .ref a_t_order, .ref a_t_times, .int t_listed])), (a_t_now, .inl (cI, 1562, .inl t_now)), (a_t_text, .inl (cB, 200, .inl t_text))] sz) := by
  refine Met.ofW (cc := cX11_part) (maxL := 3) (ret := (some .boolean)) (by decide) rfl ?_
  intro p e s m args below meth c s₁ B hml hv
  obtain ⟨rfl, hsz, hP, hK, hN, hZ, hD0⟩ := hv
  have hx := B.exec
  have hb := B.bytes
  have hr := B.returns
  have hts := atoms_spec (ws := wsX11_part) B.pre
  have hown : s.vm.findClass RX11 = some m.cls := findClass_of_methodNamed B.named
  have hlocks := B.notSynchronized
  subst hsz
  have hD := hD0.self (sz := s.heap.size)
  generalize hAe : va_A [(a_t, .inr (11, [.int t_thrown, .ref a_t_now, .ref a_t_kept, .int t_isKept, .ref a_t_text, .int t_length, .ref a_t_passing, .int t_at, .int t_fault, .int t_open, .int t_asked, .int t_byGun, .int t_prizeMost, .ref a_t_order, .ref a_t_times, .int t_listed])), (a_t_now, .inl (cI, 1562, .inl t_now)), (a_t_text, .inl (cB, 200, .inl t_text))] s.heap.size = A at hD hZ ⊢
  have hA : ∀ q : Nat, s.heap.size ≤ q → A q := fun q h => by rw [← hAe]; exact Or.inr h
  have hS : va_S A s.heap s.heap [] := va_S.rf
  have hl := lv_entry ([.ref a_t]) (n := 3) (Nat.le_of_ble_eq_true rfl)
  rw [lg_entry_eq]
  generalize (lg_sl ([.ref a_t]) ++ List.replicate (3 - (lg_sl ([.ref a_t])).length) Slot.unset).toArray = ls at hl ⊢
  have hl : lv_has ls 3 [(0, .ref a_t)] := hl
  unfold fX11_part at h
  refine lv_aload_n hx hb dX11_part_0 rfl (lv_at hl 0 rfl) ?_
  obtain ⟨⟨b1, t_at_r2, t_fault_r3, t_open_r4⟩, e5, h⟩ := zz_b h
  dsimp only at h
  refine zVi (As := []) (rest := []) (C := RX11) (wr := []) [0, 1, 2] [] 0 ⟨hx, hb, hml, hown, hts⟩ (mX11_unit_4 l D cB cI cZ a_t a_t_now a_t_kept a_t_text a_t_passing a_t_order a_t_times t_thrown t_isKept t_length t_at t_fault t_open t_asked t_byGun t_prizeMost t_listed t_now t_text s.heap.size N T hT b1 t_at_r2 t_fault_r3 t_open_r4 e5) (cwV 0 hts gX11_part_X11_unit rfl rfl rfl (by decide +kernel) ⟨Nat.le_of_ble_eq_true rfl, Nat.le_of_ble_eq_true rfl⟩) hK hN hZ hP hD hS hA rfl rfl rfl rfl rfl rfl rfl rfl hl.1 rfl (lv_room (Nat.le_of_ble_eq_true rfl)) dX11_part_1 ⟨Nat.le_of_ble_eq_true rfl, Nat.le_of_ble_eq_true rfl⟩ (fun H locs hP hD hS => ?_)
  have hP : va_P D vwCl [(a_t, .inr (11, [.int t_thrown, .ref a_t_now, .ref a_t_kept, .int t_isKept, .ref a_t_text, .int t_length, .ref a_t_passing, .int t_at_r2, .int t_fault_r3, .int t_open_r4, .int t_asked, .int t_byGun, .int t_prizeMost, .ref a_t_order, .ref a_t_times, .int t_listed])), (a_t_now, .inl (cI, 1562, .inl t_now)), (a_t_text, .inl (cB, 200, .inl t_text))] H := hP
  have hD : va_D A [(a_t, .inr (11, [.int t_thrown, .ref a_t_now, .ref a_t_kept, .int t_isKept, .ref a_t_text, .int t_length, .ref a_t_passing, .int t_at_r2, .int t_fault_r3, .int t_open_r4, .int t_asked, .int t_byGun, .int t_prizeMost, .ref a_t_order, .ref a_t_times, .int t_listed])), (a_t_now, .inl (cI, 1562, .inl t_now)), (a_t_text, .inl (cB, 200, .inl t_text))] := hD
  refine lv_istore_n (lv' := [(1, .int (zb b1)), (0, .ref a_t)]) hx hb dX11_part_4 rfl hl (by decide) rfl (fun ls hl => ?_)
  have X5_53 : ∀ (v1_5 : Bool) (t_at_l5 : Int32) (t_fault_l5 : Int32) (t_open_l5 : Int32) (H : Heap) (locs : List Loc) (ls : Array Slot), some (v1_5, t_at_l5, t_fault_l5, t_open_l5) = some (b0, t_at', t_fault', t_open') → va_P D vwCl [(a_t, .inr (11, [.int t_thrown, .ref a_t_now, .ref a_t_kept, .int t_isKept, .ref a_t_text, .int t_length, .ref a_t_passing, .int t_at_l5, .int t_fault_l5, .int t_open_l5, .int t_asked, .int t_byGun, .int t_prizeMost, .ref a_t_order, .ref a_t_times, .int t_listed])), (a_t_now, .inl (cI, 1562, .inl t_now)), (a_t_text, .inl (cB, 200, .inl t_text))] H → va_D A [(a_t, .inr (11, [.int t_thrown, .ref a_t_now, .ref a_t_kept, .int t_isKept, .ref a_t_text, .int t_length, .ref a_t_passing, .int t_at_l5, .int t_fault_l5, .int t_open_l5, .int t_asked, .int t_byGun, .int t_prizeMost, .ref a_t_order, .ref a_t_times, .int t_listed])), (a_t_now, .inl (cI, 1562, .inl t_now)), (a_t_text, .inl (cB, 200, .inl t_text))] → va_S A s.heap H locs → lv_has ls 3 [(1, .int (zb v1_5)), (0, .ref a_t)] → W p l e (headSpec wsX11_part ({ frames := 15, cells := 0, slots := 0, locals := 343 } : Room)).room s m #[Value.ref a_t] below meth c H locs 0 0 (MQ below (zQi (zb b0) D (zT cB cI cZ) [(a_t, .inr (11, [.int t_thrown, .ref a_t_now, .ref a_t_kept, .int t_isKept, .ref a_t_text, .int t_length, .ref a_t_passing, .int t_at', .int t_fault', .int t_open', .int t_asked, .int t_byGun, .int t_prizeMost, .ref a_t_order, .ref a_t_times, .int t_listed])), (a_t_now, .inl (cI, 1562, .inl t_now)), (a_t_text, .inl (cB, 200, .inl t_text))] A) #[Value.ref a_t] s 0 0 A) (F0 m 53 ls []) := by
    intro v1_5 t_at_l5 t_fault_l5 t_open_l5 H locs ls h hP hD hS hl
    refine lv_iload_n hx hb dX11_part_53 rfl (lv_at hl 0 rfl) ?_
    obtain ⟨j0_, g_⟩ := Prod.mk.inj (Option.some.inj h)
    obtain ⟨j1_, g_⟩ := Prod.mk.inj g_
    obtain ⟨j2_, g_⟩ := Prod.mk.inj g_
    have j3_ := g_
    subst j0_
    subst j1_
    subst j2_
    subst j3_
    exact W.zret (v := (zb v1_5)) hx hb hr zz_n (fun t ht hW => ⟨⟨_, (), rfl, rfl, zPost.of hP hD hK ht hW [0, 1, 2] rfl rfl rfl⟩, hS.F ht⟩) hS.2.2 dX11_part_54
  have L5 : ∀ (n : Nat) (v1_5 : Bool) (t_at_l5 : Int32) (t_fault_l5 : Int32) (t_open_l5 : Int32) (H : Heap) (locs : List Loc) (ls : Array Slot), fX11_part_L5 N T t_length t_asked t_now t_text (fun (v1_5 : Bool) (t_at_l5 : Int32) (t_fault_l5 : Int32) (t_open_l5 : Int32) => some (v1_5, t_at_l5, t_fault_l5, t_open_l5)) n v1_5 t_at_l5 t_fault_l5 t_open_l5 = some (b0, t_at', t_fault', t_open') → va_P D vwCl [(a_t, .inr (11, [.int t_thrown, .ref a_t_now, .ref a_t_kept, .int t_isKept, .ref a_t_text, .int t_length, .ref a_t_passing, .int t_at_l5, .int t_fault_l5, .int t_open_l5, .int t_asked, .int t_byGun, .int t_prizeMost, .ref a_t_order, .ref a_t_times, .int t_listed])), (a_t_now, .inl (cI, 1562, .inl t_now)), (a_t_text, .inl (cB, 200, .inl t_text))] H → va_D A [(a_t, .inr (11, [.int t_thrown, .ref a_t_now, .ref a_t_kept, .int t_isKept, .ref a_t_text, .int t_length, .ref a_t_passing, .int t_at_l5, .int t_fault_l5, .int t_open_l5, .int t_asked, .int t_byGun, .int t_prizeMost, .ref a_t_order, .ref a_t_times, .int t_listed])), (a_t_now, .inl (cI, 1562, .inl t_now)), (a_t_text, .inl (cB, 200, .inl t_text))] → va_S A s.heap H locs → lv_has ls 3 [(1, .int (zb v1_5)), (0, .ref a_t)] → W p l e (headSpec wsX11_part ({ frames := 15, cells := 0, slots := 0, locals := 343 } : Room)).room s m #[Value.ref a_t] below meth c H locs 0 0 (MQ below (zQi (zb b0) D (zT cB cI cZ) [(a_t, .inr (11, [.int t_thrown, .ref a_t_now, .ref a_t_kept, .int t_isKept, .ref a_t_text, .int t_length, .ref a_t_passing, .int t_at', .int t_fault', .int t_open', .int t_asked, .int t_byGun, .int t_prizeMost, .ref a_t_order, .ref a_t_times, .int t_listed])), (a_t_now, .inl (cI, 1562, .inl t_now)), (a_t_text, .inl (cB, 200, .inl t_text))] A) #[Value.ref a_t] s 0 0 A) (F0 m 5 ls []) := by
    intro n
    induction n with
    | zero => intro _ _ _ _ H locs ls h hP hD hS hl; cases h
    | succ n5 ih5 =>
      intro v1_5 t_at_l5 t_fault_l5 t_open_l5 H locs ls h hP hD hS hl
      rw [fX11_part_L5.eq_2] at h
      refine lv_aload_n hx hb dX11_part_5 rfl (lv_at hl 1 rfl) ?_
      obtain ⟨b6, e7, h⟩ := zz_b h
      refine zVi (As := []) (rest := []) (C := RX11) (wr := [(a_t_now, .inl (cI, 1562, .inl t_now)), (a_t_text, .inl (cB, 200, .inl t_text))]) [0] [1, 2] 0 ⟨hx, hb, hml, hown, hts⟩ (mX11_isFine l D cB cI cZ a_t a_t_now a_t_kept a_t_text a_t_passing a_t_order a_t_times t_thrown t_isKept t_length t_at_l5 t_fault_l5 t_open_l5 t_asked t_byGun t_prizeMost t_listed H.size b6 e7) (cwV 0 hts gX11_part_X11_isFine rfl rfl rfl (by decide +kernel) ⟨Nat.le_of_ble_eq_true rfl, Nat.le_of_ble_eq_true rfl⟩) hK hN hZ hP hD hS hA rfl rfl rfl rfl rfl rfl rfl rfl hl.1 rfl (lv_room (Nat.le_of_ble_eq_true rfl)) dX11_part_6 ⟨Nat.le_of_ble_eq_true rfl, Nat.le_of_ble_eq_true rfl⟩ (fun H locs hP hD hS => ?_)
      have hP : va_P D vwCl [(a_t_now, .inl (cI, 1562, .inl t_now)), (a_t_text, .inl (cB, 200, .inl t_text)), (a_t, .inr (11, [.int t_thrown, .ref a_t_now, .ref a_t_kept, .int t_isKept, .ref a_t_text, .int t_length, .ref a_t_passing, .int t_at_l5, .int t_fault_l5, .int t_open_l5, .int t_asked, .int t_byGun, .int t_prizeMost, .ref a_t_order, .ref a_t_times, .int t_listed]))] H := hP
      have hD : va_D A [(a_t_now, .inl (cI, 1562, .inl t_now)), (a_t_text, .inl (cB, 200, .inl t_text)), (a_t, .inr (11, [.int t_thrown, .ref a_t_now, .ref a_t_kept, .int t_isKept, .ref a_t_text, .int t_length, .ref a_t_passing, .int t_at_l5, .int t_fault_l5, .int t_open_l5, .int t_asked, .int t_byGun, .int t_prizeMost, .ref a_t_order, .ref a_t_times, .int t_listed]))] := hD
      refine lv_if_eq (tgt := 53) hx hb dX11_part_9 (by decide) (fun c8 => ?_) (fun c8 => ?_)
      · have h := zz_t h c8
        exact X5_53 v1_5 t_at_l5 t_fault_l5 t_open_l5 _ _ _ h (hP.sub [2, 0, 1] rfl) (hD.sub [2, 0, 1] rfl rfl) hS (lv_sub hl [0, 1] rfl)
      · have h := zz_f h c8
        refine lv_aload_n hx hb dX11_part_12 rfl (lv_at hl 1 rfl) ?_
        obtain ⟨⟨r9, t_at_r10⟩, e11, h⟩ := zz_b h
        dsimp only at h
        refine zVi (As := []) (rest := []) (C := RX11) (wr := [(a_t_now, .inl (cI, 1562, .inl t_now))]) [2, 1] [0] 0 ⟨hx, hb, hml, hown, hts⟩ (mX11_look l D cB cI cZ a_t a_t_now a_t_kept a_t_text a_t_passing a_t_order a_t_times t_thrown t_isKept t_length t_at_l5 t_fault_l5 t_open_l5 t_asked t_byGun t_prizeMost t_listed t_text H.size N r9 t_at_r10 e11) (cwV 0 hts gX11_part_X11_look rfl rfl rfl (by decide +kernel) ⟨Nat.le_of_ble_eq_true rfl, Nat.le_of_ble_eq_true rfl⟩) hK hN hZ hP hD hS hA rfl rfl rfl rfl rfl rfl rfl rfl hl.1 rfl (lv_room (Nat.le_of_ble_eq_true rfl)) dX11_part_13 ⟨Nat.le_of_ble_eq_true rfl, Nat.le_of_ble_eq_true rfl⟩ (fun H locs hP hD hS => ?_)
        have hP : va_P D vwCl [(a_t_now, .inl (cI, 1562, .inl t_now)), (a_t, .inr (11, [.int t_thrown, .ref a_t_now, .ref a_t_kept, .int t_isKept, .ref a_t_text, .int t_length, .ref a_t_passing, .int t_at_r10, .int t_fault_l5, .int t_open_l5, .int t_asked, .int t_byGun, .int t_prizeMost, .ref a_t_order, .ref a_t_times, .int t_listed])), (a_t_text, .inl (cB, 200, .inl t_text))] H := hP
        have hD : va_D A [(a_t_now, .inl (cI, 1562, .inl t_now)), (a_t, .inr (11, [.int t_thrown, .ref a_t_now, .ref a_t_kept, .int t_isKept, .ref a_t_text, .int t_length, .ref a_t_passing, .int t_at_r10, .int t_fault_l5, .int t_open_l5, .int t_asked, .int t_byGun, .int t_prizeMost, .ref a_t_order, .ref a_t_times, .int t_listed])), (a_t_text, .inl (cB, 200, .inl t_text))] := hD
        refine lv_bipush (v := (nI 38)) hx hb dX11_part_16 rfl ?_
        refine lv_icmp_ne (tgt := 53) hx hb dX11_part_18 (by decide) (fun c12 => ?_) (fun c12 => ?_)
        · have h := zz_f h c12
          exact X5_53 v1_5 t_at_r10 t_fault_l5 t_open_l5 _ _ _ h (hP.sub [1, 0, 2] rfl) (hD.sub [1, 0, 2] rfl rfl) hS (lv_sub hl [0, 1] rfl)
        · have h := zz_t h c12
          refine lv_aload_n hx hb dX11_part_21 rfl (lv_at hl 1 rfl) ?_
          refine lv_dup hx hb dX11_part_22 rfl ?_
          refine va_get (D := D) (ci := 11) (C := RX11) (T := TX11) (N := 16) hx hb hts qX11_part_X11 hown hK hP 1 rfl rfl 7 (by decide) (hts _ kX11_part_0) (fun _ h9 => h9) rfl dX11_part_23 ?_
          refine lv_iconst (v := (nI 1)) hx hb dX11_part_26 rfl ?_
          refine lv_iadd hx hb dX11_part_27 ?_
          refine va_put (D := D) (ci := 11) (ty := .int) (C := RX11) (T := TX11) (N := 16) hx hb hts qX11_part_X11 tyX11 tyX11_ok nmX11 hown hK hP hD hS 1 rfl rfl 7 (by decide) (hts _ kX11_part_0) (fun _ h9 => h9) rfl (by decide +kernel) rfl (by first | rfl | exact zz_fit) (Nat.le_of_ble_eq_true rfl) dX11_part_28 (fun H locs hP hD hS => ?_)
          have hP : va_P D vwCl [(a_t_now, .inl (cI, 1562, .inl t_now)), (a_t, .inr (11, [.int t_thrown, .ref a_t_now, .ref a_t_kept, .int t_isKept, .ref a_t_text, .int t_length, .ref a_t_passing, .int (t_at_r10 + (nI 1)), .int t_fault_l5, .int t_open_l5, .int t_asked, .int t_byGun, .int t_prizeMost, .ref a_t_order, .ref a_t_times, .int t_listed])), (a_t_text, .inl (cB, 200, .inl t_text))] H := hP
          have hD : va_D A [(a_t_now, .inl (cI, 1562, .inl t_now)), (a_t, .inr (11, [.int t_thrown, .ref a_t_now, .ref a_t_kept, .int t_isKept, .ref a_t_text, .int t_length, .ref a_t_passing, .int (t_at_r10 + (nI 1)), .int t_fault_l5, .int t_open_l5, .int t_asked, .int t_byGun, .int t_prizeMost, .ref a_t_order, .ref a_t_times, .int t_listed])), (a_t_text, .inl (cB, 200, .inl t_text))] := hD
          refine lv_aload_n hx hb dX11_part_31 rfl (lv_at hl 1 rfl) ?_
          obtain ⟨⟨b13, t_at_r14, t_fault_r15, t_open_r16⟩, e17, h⟩ := zz_b h
          dsimp only at h
          refine zVi (As := []) (rest := []) (C := RX11) (wr := []) [1, 0, 2] [] 0 ⟨hx, hb, hml, hown, hts⟩ (mX11_unit_4 l D cB cI cZ a_t a_t_now a_t_kept a_t_text a_t_passing a_t_order a_t_times t_thrown t_isKept t_length (t_at_r10 + (nI 1)) t_fault_l5 t_open_l5 t_asked t_byGun t_prizeMost t_listed t_now t_text H.size N T hT b13 t_at_r14 t_fault_r15 t_open_r16 e17) (cwV 0 hts gX11_part_X11_unit rfl rfl rfl (by decide +kernel) ⟨Nat.le_of_ble_eq_true rfl, Nat.le_of_ble_eq_true rfl⟩) hK hN hZ hP hD hS hA rfl rfl rfl rfl rfl rfl rfl rfl hl.1 rfl (lv_room (Nat.le_of_ble_eq_true rfl)) dX11_part_32 ⟨Nat.le_of_ble_eq_true rfl, Nat.le_of_ble_eq_true rfl⟩ (fun H locs hP hD hS => ?_)
          have hP : va_P D vwCl [(a_t, .inr (11, [.int t_thrown, .ref a_t_now, .ref a_t_kept, .int t_isKept, .ref a_t_text, .int t_length, .ref a_t_passing, .int t_at_r14, .int t_fault_r15, .int t_open_r16, .int t_asked, .int t_byGun, .int t_prizeMost, .ref a_t_order, .ref a_t_times, .int t_listed])), (a_t_now, .inl (cI, 1562, .inl t_now)), (a_t_text, .inl (cB, 200, .inl t_text))] H := hP
          have hD : va_D A [(a_t, .inr (11, [.int t_thrown, .ref a_t_now, .ref a_t_kept, .int t_isKept, .ref a_t_text, .int t_length, .ref a_t_passing, .int t_at_r14, .int t_fault_r15, .int t_open_r16, .int t_asked, .int t_byGun, .int t_prizeMost, .ref a_t_order, .ref a_t_times, .int t_listed])), (a_t_now, .inl (cI, 1562, .inl t_now)), (a_t_text, .inl (cB, 200, .inl t_text))] := hD
          refine lv_istore_n (lv' := [(2, .int (zb b13)), (1, .int (zb v1_5)), (0, .ref a_t)]) hx hb dX11_part_35 rfl hl (by decide) rfl (fun ls hl => ?_)
          refine lv_iload_n hx hb dX11_part_36 rfl (lv_at hl 1 rfl) ?_
          refine lv_if_eq (tgt := 48) hx hb dX11_part_37 (by decide) (fun c18 => ?_) (fun c18 => ?_)
          · have h := zz_t h c18
            refine lv_iconst (v := (nI 0)) hx hb dX11_part_48 rfl ?_
            refine lv_istore_n (lv' := [(1, .int (nI 0)), (2, .int (zb b13)), (0, .ref a_t)]) hx hb dX11_part_49 rfl hl (by decide) rfl (fun ls hl => ?_)
            refine lv_goto (tgt := 5) hx hb dX11_part_50 (by decide) ?_
            exact ih5 false t_at_r14 t_fault_r15 t_open_r16 _ _ _ h (hP.sub [0, 1, 2] rfl) (hD.sub [0, 1, 2] rfl rfl) hS (lv_sub hl [0, 2] rfl)
          · have h := zz_f h c18
            refine lv_iload_n hx hb dX11_part_40 rfl (lv_at hl 0 rfl) ?_
            refine lv_if_eq (tgt := 48) hx hb dX11_part_41 (by decide) (fun c19 => ?_) (fun c19 => ?_)
            · have h := zz_t h c19
              refine lv_iconst (v := (nI 0)) hx hb dX11_part_48 rfl ?_
              refine lv_istore_n (lv' := [(1, .int (nI 0)), (2, .int (zb b13)), (0, .ref a_t)]) hx hb dX11_part_49 rfl hl (by decide) rfl (fun ls hl => ?_)
              refine lv_goto (tgt := 5) hx hb dX11_part_50 (by decide) ?_
              exact ih5 false t_at_r14 t_fault_r15 t_open_r16 _ _ _ h (hP.sub [0, 1, 2] rfl) (hD.sub [0, 1, 2] rfl rfl) hS (lv_sub hl [0, 2] rfl)
            · have h := zz_f h c19
              refine lv_iconst (v := (nI 1)) hx hb dX11_part_44 rfl ?_
              refine lv_goto (tgt := 49) hx hb dX11_part_45 (by decide) ?_
              refine lv_istore_n (lv' := [(1, .int (nI 1)), (2, .int (zb b13)), (0, .ref a_t)]) hx hb dX11_part_49 rfl hl (by decide) rfl (fun ls hl => ?_)
              refine lv_goto (tgt := 5) hx hb dX11_part_50 (by decide) ?_
              exact ih5 true t_at_r14 t_fault_r15 t_open_r16 _ _ _ h (hP.sub [0, 1, 2] rfl) (hD.sub [0, 1, 2] rfl rfl) hS (lv_sub hl [0, 2] rfl)
  exact L5 N b1 t_at_r2 t_fault_r3 t_open_r4 _ _ _ h hP hD hS hl
set_option maxHeartbeats 4000000 in
set_option maxRecDepth 100000 in
theorem mX11_tests_4 (l : Launch) (D : va_G) (cB cI cZ : ClassId) (a_t : Nat) (a_t_now : Nat) (a_t_kept : Nat) (a_t_text : Nat) (a_t_passing : Nat) (a_t_order : Nat) (a_t_times : Nat) (t_thrown : Int32) (t_isKept : Int32) (t_length : Int32) (t_at : Int32) (t_fault : Int32) (t_open : Int32) (t_asked : Int32) (t_byGun : Int32) (t_prizeMost : Int32) (t_listed : Int32) (t_now : Nat → Int32) (t_text : Nat → Int32) (sz : Nat) (N : Nat) (b0 : Bool) (t_at' : Int32) (t_fault' : Int32) (t_open' : Int32) (h : fX11_testsD N 5 t_asked t_at t_fault t_length t_open t_now t_text = some (b0, t_at', t_fault', t_open')) : Met l yX11_tests wsX11_tests ({ frames := 16, cells := 0, slots := 0, locals := 365 } : Room) (va_Pc [.ref a_t] (zPre D (zT cB cI cZ) [(a_t, .inr (11, [.int t_thrown, .ref a_t_now, .ref a_t_kept, .int t_isKept, .ref a_t_text, .int t_length, .ref a_t_passing, .int t_at, .int t_fault, .int t_open, .int t_asked, .int t_byGun, .int t_prizeMost, .ref a_t_order, .ref a_t_times, .int t_listed])), (a_t_now, .inl (cI, 1562, .inl t_now)), (a_t_text, .inl (cB, 200, .inl t_text))] sz)) (zQi (zb b0) D (zT cB cI cZ) [(a_t, .inr (11, [.int t_thrown, .ref a_t_now, .ref a_t_kept, .int t_isKept, .ref a_t_text, .int t_length, .ref a_t_passing, .int t_at', .int t_fault', .int t_open', .int t_asked, .int t_byGun, .int t_prizeMost, .ref a_t_order, .ref a_t_times, .int t_listed])), (a_t_now, .inl (cI, 1562, .inl t_now)), (a_t_text, .inl (cB, 200, .inl t_text))] (va_A [(a_t, .inr (11, [.int t_thrown, .ref a_t_now, .ref a_t_kept, .int t_isKept, .ref a_t_text, .int t_length, .ref a_t_passing, .int t_at, .int t_fault, .int t_open, .int t_asked, .int t_byGun, .int t_prizeMost, .ref a_t_order, .ref a_t_times, .int t_listed])), (a_t_now, .inl (cI, 1562, .inl t_now)), (a_t_text, .inl (cB, 200, .inl t_text))] sz)) 0 0 (va_A [(a_t, .inr (11, [.int t_thrown, .ref a_t_now, .ref a_t_kept, .int t_isKept, .ref a_t_text, .int t_length, .ref a_t_passing, .int t_at, .int t_fault, .int t_open, .int t_asked, .int t_byGun, .int t_prizeMost, .ref a_t_order, .ref a_t_times, .int t_listed])), (a_t_now, .inl (cI, 1562, .inl t_now)), (a_t_text, .inl (cB, 200, .inl t_text))] sz) := by
  refine Met.ofW (cc := cX11_tests) (maxL := 3) (ret := (some .boolean)) (by decide) rfl ?_
  intro p e s m args below meth c s₁ B hml hv
  obtain ⟨rfl, hsz, hP, hK, hN, hZ, hD0⟩ := hv
  have hx := B.exec
  have hb := B.bytes
  have hr := B.returns
  have hts := atoms_spec (ws := wsX11_tests) B.pre
  have hown : s.vm.findClass RX11 = some m.cls := findClass_of_methodNamed B.named
  have hlocks := B.notSynchronized
  subst hsz
  have hD := hD0.self (sz := s.heap.size)
  generalize hAe : va_A [(a_t, .inr (11, [.int t_thrown, .ref a_t_now, .ref a_t_kept, .int t_isKept, .ref a_t_text, .int t_length, .ref a_t_passing, .int t_at, .int t_fault, .int t_open, .int t_asked, .int t_byGun, .int t_prizeMost, .ref a_t_order, .ref a_t_times, .int t_listed])), (a_t_now, .inl (cI, 1562, .inl t_now)), (a_t_text, .inl (cB, 200, .inl t_text))] s.heap.size = A at hD hZ ⊢
  have hA : ∀ q : Nat, s.heap.size ≤ q → A q := fun q h => by rw [← hAe]; exact Or.inr h
  have hS : va_S A s.heap s.heap [] := va_S.rf
  have hl := lv_entry ([.ref a_t]) (n := 3) (Nat.le_of_ble_eq_true rfl)
  rw [lg_entry_eq]
  generalize (lg_sl ([.ref a_t]) ++ List.replicate (3 - (lg_sl ([.ref a_t])).length) Slot.unset).toArray = ls at hl ⊢
  have hl : lv_has ls 3 [(0, .ref a_t)] := hl
  obtain ⟨T, hT⟩ : ∃ T, T = fX11_testsD N 4 := ⟨_, rfl⟩; have h : fX11_tests_ T N t_asked t_at t_fault t_length t_open t_now t_text = some (b0, t_at', t_fault', t_open') := by rw [hT]; exact h
  unfold fX11_tests_ at h
  refine lv_aload_n hx hb dX11_tests_0 rfl (lv_at hl 0 rfl) ?_
  obtain ⟨⟨b1, t_at_r2, t_fault_r3, t_open_r4⟩, e5, h⟩ := zz_b h
  dsimp only at h
  refine zVi (As := []) (rest := []) (C := RX11) (wr := []) [0, 1, 2] [] 0 ⟨hx, hb, hml, hown, hts⟩ (mX11_part_4 l D cB cI cZ a_t a_t_now a_t_kept a_t_text a_t_passing a_t_order a_t_times t_thrown t_isKept t_length t_at t_fault t_open t_asked t_byGun t_prizeMost t_listed t_now t_text s.heap.size N T hT b1 t_at_r2 t_fault_r3 t_open_r4 e5) (cwV 0 hts gX11_tests_X11_part rfl rfl rfl (by decide +kernel) ⟨Nat.le_of_ble_eq_true rfl, Nat.le_of_ble_eq_true rfl⟩) hK hN hZ hP hD hS hA rfl rfl rfl rfl rfl rfl rfl rfl hl.1 rfl (lv_room (Nat.le_of_ble_eq_true rfl)) dX11_tests_1 ⟨Nat.le_of_ble_eq_true rfl, Nat.le_of_ble_eq_true rfl⟩ (fun H locs hP hD hS => ?_)
  have hP : va_P D vwCl [(a_t, .inr (11, [.int t_thrown, .ref a_t_now, .ref a_t_kept, .int t_isKept, .ref a_t_text, .int t_length, .ref a_t_passing, .int t_at_r2, .int t_fault_r3, .int t_open_r4, .int t_asked, .int t_byGun, .int t_prizeMost, .ref a_t_order, .ref a_t_times, .int t_listed])), (a_t_now, .inl (cI, 1562, .inl t_now)), (a_t_text, .inl (cB, 200, .inl t_text))] H := hP
  have hD : va_D A [(a_t, .inr (11, [.int t_thrown, .ref a_t_now, .ref a_t_kept, .int t_isKept, .ref a_t_text, .int t_length, .ref a_t_passing, .int t_at_r2, .int t_fault_r3, .int t_open_r4, .int t_asked, .int t_byGun, .int t_prizeMost, .ref a_t_order, .ref a_t_times, .int t_listed])), (a_t_now, .inl (cI, 1562, .inl t_now)), (a_t_text, .inl (cB, 200, .inl t_text))] := hD
  refine lv_istore_n (lv' := [(1, .int (zb b1)), (0, .ref a_t)]) hx hb dX11_tests_4 rfl hl (by decide) rfl (fun ls hl => ?_)
  have X5_53 : ∀ (v1_5 : Bool) (t_at_l5 : Int32) (t_fault_l5 : Int32) (t_open_l5 : Int32) (H : Heap) (locs : List Loc) (ls : Array Slot), some (v1_5, t_at_l5, t_fault_l5, t_open_l5) = some (b0, t_at', t_fault', t_open') → va_P D vwCl [(a_t, .inr (11, [.int t_thrown, .ref a_t_now, .ref a_t_kept, .int t_isKept, .ref a_t_text, .int t_length, .ref a_t_passing, .int t_at_l5, .int t_fault_l5, .int t_open_l5, .int t_asked, .int t_byGun, .int t_prizeMost, .ref a_t_order, .ref a_t_times, .int t_listed])), (a_t_now, .inl (cI, 1562, .inl t_now)), (a_t_text, .inl (cB, 200, .inl t_text))] H → va_D A [(a_t, .inr (11, [.int t_thrown, .ref a_t_now, .ref a_t_kept, .int t_isKept, .ref a_t_text, .int t_length, .ref a_t_passing, .int t_at_l5, .int t_fault_l5, .int t_open_l5, .int t_asked, .int t_byGun, .int t_prizeMost, .ref a_t_order, .ref a_t_times, .int t_listed])), (a_t_now, .inl (cI, 1562, .inl t_now)), (a_t_text, .inl (cB, 200, .inl t_text))] → va_S A s.heap H locs → lv_has ls 3 [(1, .int (zb v1_5)), (0, .ref a_t)] → W p l e (headSpec wsX11_tests ({ frames := 16, cells := 0, slots := 0, locals := 365 } : Room)).room s m #[Value.ref a_t] below meth c H locs 0 0 (MQ below (zQi (zb b0) D (zT cB cI cZ) [(a_t, .inr (11, [.int t_thrown, .ref a_t_now, .ref a_t_kept, .int t_isKept, .ref a_t_text, .int t_length, .ref a_t_passing, .int t_at', .int t_fault', .int t_open', .int t_asked, .int t_byGun, .int t_prizeMost, .ref a_t_order, .ref a_t_times, .int t_listed])), (a_t_now, .inl (cI, 1562, .inl t_now)), (a_t_text, .inl (cB, 200, .inl t_text))] A) #[Value.ref a_t] s 0 0 A) (F0 m 53 ls []) := by
    intro v1_5 t_at_l5 t_fault_l5 t_open_l5 H locs ls h hP hD hS hl
    refine lv_iload_n hx hb dX11_tests_53 rfl (lv_at hl 0 rfl) ?_
    obtain ⟨j0_, g_⟩ := Prod.mk.inj (Option.some.inj h)
    obtain ⟨j1_, g_⟩ := Prod.mk.inj g_
    obtain ⟨j2_, g_⟩ := Prod.mk.inj g_
    have j3_ := g_
    subst j0_
    subst j1_
    subst j2_
    subst j3_
    exact W.zret (v := (zb v1_5)) hx hb hr zz_n (fun t ht hW => ⟨⟨_, (), rfl, rfl, zPost.of hP hD hK ht hW [0, 1, 2] rfl rfl rfl⟩, hS.F ht⟩) hS.2.2 dX11_tests_54
  have L5 : ∀ (n : Nat) (v1_5 : Bool) (t_at_l5 : Int32) (t_fault_l5 : Int32) (t_open_l5 : Int32) (H : Heap) (locs : List Loc) (ls : Array Slot), fX11_tests_L5 N T t_length t_asked t_now t_text (fun (v1_5 : Bool) (t_at_l5 : Int32) (t_fault_l5 : Int32) (t_open_l5 : Int32) => some (v1_5, t_at_l5, t_fault_l5, t_open_l5)) n v1_5 t_at_l5 t_fault_l5 t_open_l5 = some (b0, t_at', t_fault', t_open') → va_P D vwCl [(a_t, .inr (11, [.int t_thrown, .ref a_t_now, .ref a_t_kept, .int t_isKept, .ref a_t_text, .int t_length, .ref a_t_passing, .int t_at_l5, .int t_fault_l5, .int t_open_l5, .int t_asked, .int t_byGun, .int t_prizeMost, .ref a_t_order, .ref a_t_times, .int t_listed])), (a_t_now, .inl (cI, 1562, .inl t_now)), (a_t_text, .inl (cB, 200, .inl t_text))] H → va_D A [(a_t, .inr (11, [.int t_thrown, .ref a_t_now, .ref a_t_kept, .int t_isKept, .ref a_t_text, .int t_length, .ref a_t_passing, .int t_at_l5, .int t_fault_l5, .int t_open_l5, .int t_asked, .int t_byGun, .int t_prizeMost, .ref a_t_order, .ref a_t_times, .int t_listed])), (a_t_now, .inl (cI, 1562, .inl t_now)), (a_t_text, .inl (cB, 200, .inl t_text))] → va_S A s.heap H locs → lv_has ls 3 [(1, .int (zb v1_5)), (0, .ref a_t)] → W p l e (headSpec wsX11_tests ({ frames := 16, cells := 0, slots := 0, locals := 365 } : Room)).room s m #[Value.ref a_t] below meth c H locs 0 0 (MQ below (zQi (zb b0) D (zT cB cI cZ) [(a_t, .inr (11, [.int t_thrown, .ref a_t_now, .ref a_t_kept, .int t_isKept, .ref a_t_text, .int t_length, .ref a_t_passing, .int t_at', .int t_fault', .int t_open', .int t_asked, .int t_byGun, .int t_prizeMost, .ref a_t_order, .ref a_t_times, .int t_listed])), (a_t_now, .inl (cI, 1562, .inl t_now)), (a_t_text, .inl (cB, 200, .inl t_text))] A) #[Value.ref a_t] s 0 0 A) (F0 m 5 ls []) := by
    intro n
    induction n with
    | zero => intro _ _ _ _ H locs ls h hP hD hS hl; cases h
    | succ n5 ih5 =>
      intro v1_5 t_at_l5 t_fault_l5 t_open_l5 H locs ls h hP hD hS hl
      rw [fX11_tests_L5.eq_2] at h
      refine lv_aload_n hx hb dX11_tests_5 rfl (lv_at hl 1 rfl) ?_
      obtain ⟨b6, e7, h⟩ := zz_b h
      refine zVi (As := []) (rest := []) (C := RX11) (wr := [(a_t_now, .inl (cI, 1562, .inl t_now)), (a_t_text, .inl (cB, 200, .inl t_text))]) [0] [1, 2] 0 ⟨hx, hb, hml, hown, hts⟩ (mX11_isFine l D cB cI cZ a_t a_t_now a_t_kept a_t_text a_t_passing a_t_order a_t_times t_thrown t_isKept t_length t_at_l5 t_fault_l5 t_open_l5 t_asked t_byGun t_prizeMost t_listed H.size b6 e7) (cwV 0 hts gX11_tests_X11_isFine rfl rfl rfl (by decide +kernel) ⟨Nat.le_of_ble_eq_true rfl, Nat.le_of_ble_eq_true rfl⟩) hK hN hZ hP hD hS hA rfl rfl rfl rfl rfl rfl rfl rfl hl.1 rfl (lv_room (Nat.le_of_ble_eq_true rfl)) dX11_tests_6 ⟨Nat.le_of_ble_eq_true rfl, Nat.le_of_ble_eq_true rfl⟩ (fun H locs hP hD hS => ?_)
      have hP : va_P D vwCl [(a_t_now, .inl (cI, 1562, .inl t_now)), (a_t_text, .inl (cB, 200, .inl t_text)), (a_t, .inr (11, [.int t_thrown, .ref a_t_now, .ref a_t_kept, .int t_isKept, .ref a_t_text, .int t_length, .ref a_t_passing, .int t_at_l5, .int t_fault_l5, .int t_open_l5, .int t_asked, .int t_byGun, .int t_prizeMost, .ref a_t_order, .ref a_t_times, .int t_listed]))] H := hP
      have hD : va_D A [(a_t_now, .inl (cI, 1562, .inl t_now)), (a_t_text, .inl (cB, 200, .inl t_text)), (a_t, .inr (11, [.int t_thrown, .ref a_t_now, .ref a_t_kept, .int t_isKept, .ref a_t_text, .int t_length, .ref a_t_passing, .int t_at_l5, .int t_fault_l5, .int t_open_l5, .int t_asked, .int t_byGun, .int t_prizeMost, .ref a_t_order, .ref a_t_times, .int t_listed]))] := hD
      refine lv_if_eq (tgt := 53) hx hb dX11_tests_9 (by decide) (fun c8 => ?_) (fun c8 => ?_)
      · have h := zz_t h c8
        exact X5_53 v1_5 t_at_l5 t_fault_l5 t_open_l5 _ _ _ h (hP.sub [2, 0, 1] rfl) (hD.sub [2, 0, 1] rfl rfl) hS (lv_sub hl [0, 1] rfl)
      · have h := zz_f h c8
        refine lv_aload_n hx hb dX11_tests_12 rfl (lv_at hl 1 rfl) ?_
        obtain ⟨⟨r9, t_at_r10⟩, e11, h⟩ := zz_b h
        dsimp only at h
        refine zVi (As := []) (rest := []) (C := RX11) (wr := [(a_t_now, .inl (cI, 1562, .inl t_now))]) [2, 1] [0] 0 ⟨hx, hb, hml, hown, hts⟩ (mX11_look l D cB cI cZ a_t a_t_now a_t_kept a_t_text a_t_passing a_t_order a_t_times t_thrown t_isKept t_length t_at_l5 t_fault_l5 t_open_l5 t_asked t_byGun t_prizeMost t_listed t_text H.size N r9 t_at_r10 e11) (cwV 0 hts gX11_tests_X11_look rfl rfl rfl (by decide +kernel) ⟨Nat.le_of_ble_eq_true rfl, Nat.le_of_ble_eq_true rfl⟩) hK hN hZ hP hD hS hA rfl rfl rfl rfl rfl rfl rfl rfl hl.1 rfl (lv_room (Nat.le_of_ble_eq_true rfl)) dX11_tests_13 ⟨Nat.le_of_ble_eq_true rfl, Nat.le_of_ble_eq_true rfl⟩ (fun H locs hP hD hS => ?_)
        have hP : va_P D vwCl [(a_t_now, .inl (cI, 1562, .inl t_now)), (a_t, .inr (11, [.int t_thrown, .ref a_t_now, .ref a_t_kept, .int t_isKept, .ref a_t_text, .int t_length, .ref a_t_passing, .int t_at_r10, .int t_fault_l5, .int t_open_l5, .int t_asked, .int t_byGun, .int t_prizeMost, .ref a_t_order, .ref a_t_times, .int t_listed])), (a_t_text, .inl (cB, 200, .inl t_text))] H := hP
        have hD : va_D A [(a_t_now, .inl (cI, 1562, .inl t_now)), (a_t, .inr (11, [.int t_thrown, .ref a_t_now, .ref a_t_kept, .int t_isKept, .ref a_t_text, .int t_length, .ref a_t_passing, .int t_at_r10, .int t_fault_l5, .int t_open_l5, .int t_asked, .int t_byGun, .int t_prizeMost, .ref a_t_order, .ref a_t_times, .int t_listed])), (a_t_text, .inl (cB, 200, .inl t_text))] := hD
        refine lv_bipush (v := (nI 124)) hx hb dX11_tests_16 rfl ?_
        refine lv_icmp_ne (tgt := 53) hx hb dX11_tests_18 (by decide) (fun c12 => ?_) (fun c12 => ?_)
        · have h := zz_f h c12
          exact X5_53 v1_5 t_at_r10 t_fault_l5 t_open_l5 _ _ _ h (hP.sub [1, 0, 2] rfl) (hD.sub [1, 0, 2] rfl rfl) hS (lv_sub hl [0, 1] rfl)
        · have h := zz_t h c12
          refine lv_aload_n hx hb dX11_tests_21 rfl (lv_at hl 1 rfl) ?_
          refine lv_dup hx hb dX11_tests_22 rfl ?_
          refine va_get (D := D) (ci := 11) (C := RX11) (T := TX11) (N := 16) hx hb hts qX11_tests_X11 hown hK hP 1 rfl rfl 7 (by decide) (hts _ kX11_tests_0) (fun _ h9 => h9) rfl dX11_tests_23 ?_
          refine lv_iconst (v := (nI 1)) hx hb dX11_tests_26 rfl ?_
          refine lv_iadd hx hb dX11_tests_27 ?_
          refine va_put (D := D) (ci := 11) (ty := .int) (C := RX11) (T := TX11) (N := 16) hx hb hts qX11_tests_X11 tyX11 tyX11_ok nmX11 hown hK hP hD hS 1 rfl rfl 7 (by decide) (hts _ kX11_tests_0) (fun _ h9 => h9) rfl (by decide +kernel) rfl (by first | rfl | exact zz_fit) (Nat.le_of_ble_eq_true rfl) dX11_tests_28 (fun H locs hP hD hS => ?_)
          have hP : va_P D vwCl [(a_t_now, .inl (cI, 1562, .inl t_now)), (a_t, .inr (11, [.int t_thrown, .ref a_t_now, .ref a_t_kept, .int t_isKept, .ref a_t_text, .int t_length, .ref a_t_passing, .int (t_at_r10 + (nI 1)), .int t_fault_l5, .int t_open_l5, .int t_asked, .int t_byGun, .int t_prizeMost, .ref a_t_order, .ref a_t_times, .int t_listed])), (a_t_text, .inl (cB, 200, .inl t_text))] H := hP
          have hD : va_D A [(a_t_now, .inl (cI, 1562, .inl t_now)), (a_t, .inr (11, [.int t_thrown, .ref a_t_now, .ref a_t_kept, .int t_isKept, .ref a_t_text, .int t_length, .ref a_t_passing, .int (t_at_r10 + (nI 1)), .int t_fault_l5, .int t_open_l5, .int t_asked, .int t_byGun, .int t_prizeMost, .ref a_t_order, .ref a_t_times, .int t_listed])), (a_t_text, .inl (cB, 200, .inl t_text))] := hD
          refine lv_aload_n hx hb dX11_tests_31 rfl (lv_at hl 1 rfl) ?_
          obtain ⟨⟨b13, t_at_r14, t_fault_r15, t_open_r16⟩, e17, h⟩ := zz_b h
          dsimp only at h
          refine zVi (As := []) (rest := []) (C := RX11) (wr := []) [1, 0, 2] [] 0 ⟨hx, hb, hml, hown, hts⟩ (mX11_part_4 l D cB cI cZ a_t a_t_now a_t_kept a_t_text a_t_passing a_t_order a_t_times t_thrown t_isKept t_length (t_at_r10 + (nI 1)) t_fault_l5 t_open_l5 t_asked t_byGun t_prizeMost t_listed t_now t_text H.size N T hT b13 t_at_r14 t_fault_r15 t_open_r16 e17) (cwV 0 hts gX11_tests_X11_part rfl rfl rfl (by decide +kernel) ⟨Nat.le_of_ble_eq_true rfl, Nat.le_of_ble_eq_true rfl⟩) hK hN hZ hP hD hS hA rfl rfl rfl rfl rfl rfl rfl rfl hl.1 rfl (lv_room (Nat.le_of_ble_eq_true rfl)) dX11_tests_32 ⟨Nat.le_of_ble_eq_true rfl, Nat.le_of_ble_eq_true rfl⟩ (fun H locs hP hD hS => ?_)
          have hP : va_P D vwCl [(a_t, .inr (11, [.int t_thrown, .ref a_t_now, .ref a_t_kept, .int t_isKept, .ref a_t_text, .int t_length, .ref a_t_passing, .int t_at_r14, .int t_fault_r15, .int t_open_r16, .int t_asked, .int t_byGun, .int t_prizeMost, .ref a_t_order, .ref a_t_times, .int t_listed])), (a_t_now, .inl (cI, 1562, .inl t_now)), (a_t_text, .inl (cB, 200, .inl t_text))] H := hP
          have hD : va_D A [(a_t, .inr (11, [.int t_thrown, .ref a_t_now, .ref a_t_kept, .int t_isKept, .ref a_t_text, .int t_length, .ref a_t_passing, .int t_at_r14, .int t_fault_r15, .int t_open_r16, .int t_asked, .int t_byGun, .int t_prizeMost, .ref a_t_order, .ref a_t_times, .int t_listed])), (a_t_now, .inl (cI, 1562, .inl t_now)), (a_t_text, .inl (cB, 200, .inl t_text))] := hD
          refine lv_istore_n (lv' := [(2, .int (zb b13)), (1, .int (zb v1_5)), (0, .ref a_t)]) hx hb dX11_tests_35 rfl hl (by decide) rfl (fun ls hl => ?_)
          refine lv_iload_n hx hb dX11_tests_36 rfl (lv_at hl 1 rfl) ?_
          refine lv_if_ne (tgt := 44) hx hb dX11_tests_37 (by decide) (fun c18 => ?_) (fun c18 => ?_)
          · have h := zz_f h c18
            refine lv_iconst (v := (nI 1)) hx hb dX11_tests_44 rfl ?_
            refine lv_goto (tgt := 49) hx hb dX11_tests_45 (by decide) ?_
            refine lv_istore_n (lv' := [(1, .int (nI 1)), (2, .int (zb b13)), (0, .ref a_t)]) hx hb dX11_tests_49 rfl hl (by decide) rfl (fun ls hl => ?_)
            refine lv_goto (tgt := 5) hx hb dX11_tests_50 (by decide) ?_
            exact ih5 true t_at_r14 t_fault_r15 t_open_r16 _ _ _ h (hP.sub [0, 1, 2] rfl) (hD.sub [0, 1, 2] rfl rfl) hS (lv_sub hl [0, 2] rfl)
          · have h := zz_t h c18
            refine lv_iload_n hx hb dX11_tests_40 rfl (lv_at hl 0 rfl) ?_
            refine lv_if_eq (tgt := 48) hx hb dX11_tests_41 (by decide) (fun c19 => ?_) (fun c19 => ?_)
            · have h := zz_t h c19
              refine lv_iconst (v := (nI 0)) hx hb dX11_tests_48 rfl ?_
              refine lv_istore_n (lv' := [(1, .int (nI 0)), (2, .int (zb b13)), (0, .ref a_t)]) hx hb dX11_tests_49 rfl hl (by decide) rfl (fun ls hl => ?_)
              refine lv_goto (tgt := 5) hx hb dX11_tests_50 (by decide) ?_
              exact ih5 false t_at_r14 t_fault_r15 t_open_r16 _ _ _ h (hP.sub [0, 1, 2] rfl) (hD.sub [0, 1, 2] rfl rfl) hS (lv_sub hl [0, 2] rfl)
            · have h := zz_f h c19
              refine lv_iconst (v := (nI 1)) hx hb dX11_tests_44 rfl ?_
              refine lv_goto (tgt := 49) hx hb dX11_tests_45 (by decide) ?_
              refine lv_istore_n (lv' := [(1, .int (nI 1)), (2, .int (zb b13)), (0, .ref a_t)]) hx hb dX11_tests_49 rfl hl (by decide) rfl (fun ls hl => ?_)
              refine lv_goto (tgt := 5) hx hb dX11_tests_50 (by decide) ?_
              exact ih5 true t_at_r14 t_fault_r15 t_open_r16 _ _ _ h (hP.sub [0, 1, 2] rfl) (hD.sub [0, 1, 2] rfl rfl) hS (lv_sub hl [0, 2] rfl)
  exact L5 N b1 t_at_r2 t_fault_r3 t_open_r4 _ _ _ h hP hD hS hl
set_option maxHeartbeats 4000000 in
set_option maxRecDepth 100000 in
theorem mX11_unit_5 (l : Launch) (D : va_G) (cB cI cZ : ClassId) (a_t : Nat) (a_t_now : Nat) (a_t_kept : Nat) (a_t_text : Nat) (a_t_passing : Nat) (a_t_order : Nat) (a_t_times : Nat) (t_thrown : Int32) (t_isKept : Int32) (t_length : Int32) (t_at : Int32) (t_fault : Int32) (t_open : Int32) (t_asked : Int32) (t_byGun : Int32) (t_prizeMost : Int32) (t_listed : Int32) (t_now : Nat → Int32) (t_text : Nat → Int32) (sz : Nat) (N : Nat) (T : Int32 → Int32 → Int32 → Int32 → Int32 → (Nat → Int32) → (Nat → Int32) → Option (Bool × Int32 × Int32 × Int32)) (hT : T = fX11_testsD N 5) (b0 : Bool) (t_at' : Int32) (t_fault' : Int32) (t_open' : Int32) (h : fX11_unit T N t_asked t_at t_fault t_length t_open t_now t_text = some (b0, t_at', t_fault', t_open')) : Met l yX11_unit wsX11_unit ({ frames := 17, cells := 0, slots := 0, locals := 387 } : Room) (va_Pc [.ref a_t] (zPre D (zT cB cI cZ) [(a_t, .inr (11, [.int t_thrown, .ref a_t_now, .ref a_t_kept, .int t_isKept, .ref a_t_text, .int t_length, .ref a_t_passing, .int t_at, .int t_fault, .int t_open, .int t_asked, .int t_byGun, .int t_prizeMost, .ref a_t_order, .ref a_t_times, .int t_listed])), (a_t_now, .inl (cI, 1562, .inl t_now)), (a_t_text, .inl (cB, 200, .inl t_text))] sz)) (zQi (zb b0) D (zT cB cI cZ) [(a_t, .inr (11, [.int t_thrown, .ref a_t_now, .ref a_t_kept, .int t_isKept, .ref a_t_text, .int t_length, .ref a_t_passing, .int t_at', .int t_fault', .int t_open', .int t_asked, .int t_byGun, .int t_prizeMost, .ref a_t_order, .ref a_t_times, .int t_listed])), (a_t_now, .inl (cI, 1562, .inl t_now)), (a_t_text, .inl (cB, 200, .inl t_text))] (va_A [(a_t, .inr (11, [.int t_thrown, .ref a_t_now, .ref a_t_kept, .int t_isKept, .ref a_t_text, .int t_length, .ref a_t_passing, .int t_at, .int t_fault, .int t_open, .int t_asked, .int t_byGun, .int t_prizeMost, .ref a_t_order, .ref a_t_times, .int t_listed])), (a_t_now, .inl (cI, 1562, .inl t_now)), (a_t_text, .inl (cB, 200, .inl t_text))] sz)) 0 0 (va_A [(a_t, .inr (11, [.int t_thrown, .ref a_t_now, .ref a_t_kept, .int t_isKept, .ref a_t_text, .int t_length, .ref a_t_passing, .int t_at, .int t_fault, .int t_open, .int t_asked, .int t_byGun, .int t_prizeMost, .ref a_t_order, .ref a_t_times, .int t_listed])), (a_t_now, .inl (cI, 1562, .inl t_now)), (a_t_text, .inl (cB, 200, .inl t_text))] sz) := by
  refine Met.ofW (cc := cX11_unit) (maxL := 6) (ret := (some .boolean)) (by decide) rfl ?_
  intro p e s m args below meth c s₁ B hml hv
  obtain ⟨rfl, hsz, hP, hK, hN, hZ, hD0⟩ := hv
  have hx := B.exec
  have hb := B.bytes
  have hr := B.returns
  have hts := atoms_spec (ws := wsX11_unit) B.pre
  have hown : s.vm.findClass RX11 = some m.cls := findClass_of_methodNamed B.named
  have hlocks := B.notSynchronized
  subst hsz
  have hD := hD0.self (sz := s.heap.size)
  generalize hAe : va_A [(a_t, .inr (11, [.int t_thrown, .ref a_t_now, .ref a_t_kept, .int t_isKept, .ref a_t_text, .int t_length, .ref a_t_passing, .int t_at, .int t_fault, .int t_open, .int t_asked, .int t_byGun, .int t_prizeMost, .ref a_t_order, .ref a_t_times, .int t_listed])), (a_t_now, .inl (cI, 1562, .inl t_now)), (a_t_text, .inl (cB, 200, .inl t_text))] s.heap.size = A at hD hZ ⊢
  have hA : ∀ q : Nat, s.heap.size ≤ q → A q := fun q h => by rw [← hAe]; exact Or.inr h
  have hS : va_S A s.heap s.heap [] := va_S.rf
  have hl := lv_entry ([.ref a_t]) (n := 6) (Nat.le_of_ble_eq_true rfl)
  rw [lg_entry_eq]
  generalize (lg_sl ([.ref a_t]) ++ List.replicate (6 - (lg_sl ([.ref a_t])).length) Slot.unset).toArray = ls at hl ⊢
  have hl : lv_has ls 6 [(0, .ref a_t)] := hl
  unfold fX11_unit at h
  refine lv_aload_n hx hb dX11_unit_0 rfl (lv_at hl 0 rfl) ?_
  obtain ⟨⟨r1, t_at_r2⟩, e3, h⟩ := zz_b h
  dsimp only at h
  refine zVi (As := []) (rest := []) (C := RX11) (wr := [(a_t_now, .inl (cI, 1562, .inl t_now))]) [0, 2] [1] 0 ⟨hx, hb, hml, hown, hts⟩ (mX11_look l D cB cI cZ a_t a_t_now a_t_kept a_t_text a_t_passing a_t_order a_t_times t_thrown t_isKept t_length t_at t_fault t_open t_asked t_byGun t_prizeMost t_listed t_text s.heap.size N r1 t_at_r2 e3) (cwV 0 hts gX11_unit_X11_look rfl rfl rfl (by decide +kernel) ⟨Nat.le_of_ble_eq_true rfl, Nat.le_of_ble_eq_true rfl⟩) hK hN hZ hP hD hS hA rfl rfl rfl rfl rfl rfl rfl rfl hl.1 rfl (lv_room (Nat.le_of_ble_eq_true rfl)) dX11_unit_1 ⟨Nat.le_of_ble_eq_true rfl, Nat.le_of_ble_eq_true rfl⟩ (fun H locs hP hD hS => ?_)
  have hP : va_P D vwCl [(a_t_now, .inl (cI, 1562, .inl t_now)), (a_t, .inr (11, [.int t_thrown, .ref a_t_now, .ref a_t_kept, .int t_isKept, .ref a_t_text, .int t_length, .ref a_t_passing, .int t_at_r2, .int t_fault, .int t_open, .int t_asked, .int t_byGun, .int t_prizeMost, .ref a_t_order, .ref a_t_times, .int t_listed])), (a_t_text, .inl (cB, 200, .inl t_text))] H := hP
  have hD : va_D A [(a_t_now, .inl (cI, 1562, .inl t_now)), (a_t, .inr (11, [.int t_thrown, .ref a_t_now, .ref a_t_kept, .int t_isKept, .ref a_t_text, .int t_length, .ref a_t_passing, .int t_at_r2, .int t_fault, .int t_open, .int t_asked, .int t_byGun, .int t_prizeMost, .ref a_t_order, .ref a_t_times, .int t_listed])), (a_t_text, .inl (cB, 200, .inl t_text))] := hD
  refine lv_istore_n (lv' := [(1, .int r1), (0, .ref a_t)]) hx hb dX11_unit_4 rfl hl (by decide) rfl (fun ls hl => ?_)
  refine lv_iload_n hx hb dX11_unit_5 rfl (lv_at hl 0 rfl) ?_
  refine lv_bipush (v := (nI 40)) hx hb dX11_unit_6 rfl ?_
  refine lv_icmp_ne (tgt := 69) hx hb dX11_unit_8 (by decide) (fun c4 => ?_) (fun c4 => ?_)
  · have h := zz_f h c4
    refine lv_iload_n hx hb dX11_unit_69 rfl (lv_at hl 0 rfl) ?_
    refine lv_bipush (v := (nI 115)) hx hb dX11_unit_70 rfl ?_
    have J120 : ∀ (s0_j120 : Int32) (H : Heap) (locs : List Loc) (ls : Array Slot), fX11_unit_J120 N t_length t_fault t_open t_asked t_now t_text t_at_r2 s0_j120 = some (b0, t_at', t_fault', t_open') → va_P D vwCl [(a_t_now, .inl (cI, 1562, .inl t_now)), (a_t, .inr (11, [.int t_thrown, .ref a_t_now, .ref a_t_kept, .int t_isKept, .ref a_t_text, .int t_length, .ref a_t_passing, .int t_at_r2, .int t_fault, .int t_open, .int t_asked, .int t_byGun, .int t_prizeMost, .ref a_t_order, .ref a_t_times, .int t_listed])), (a_t_text, .inl (cB, 200, .inl t_text))] H → va_D A [(a_t_now, .inl (cI, 1562, .inl t_now)), (a_t, .inr (11, [.int t_thrown, .ref a_t_now, .ref a_t_kept, .int t_isKept, .ref a_t_text, .int t_length, .ref a_t_passing, .int t_at_r2, .int t_fault, .int t_open, .int t_asked, .int t_byGun, .int t_prizeMost, .ref a_t_order, .ref a_t_times, .int t_listed])), (a_t_text, .inl (cB, 200, .inl t_text))] → va_S A s.heap H locs → lv_has ls 6 [(1, .int r1), (0, .ref a_t)] → W p l e (headSpec wsX11_unit ({ frames := 17, cells := 0, slots := 0, locals := 387 } : Room)).room s m #[Value.ref a_t] below meth c H locs 0 0 (MQ below (zQi (zb b0) D (zT cB cI cZ) [(a_t, .inr (11, [.int t_thrown, .ref a_t_now, .ref a_t_kept, .int t_isKept, .ref a_t_text, .int t_length, .ref a_t_passing, .int t_at', .int t_fault', .int t_open', .int t_asked, .int t_byGun, .int t_prizeMost, .ref a_t_order, .ref a_t_times, .int t_listed])), (a_t_now, .inl (cI, 1562, .inl t_now)), (a_t_text, .inl (cB, 200, .inl t_text))] A) #[Value.ref a_t] s 0 0 A) (F0 m 120 ls [.int s0_j120]) := by
      intro s0_j120 H locs ls h hP hD hS hl
      unfold fX11_unit_J120 at h
      refine lv_istore_n (lv' := [(2, .int s0_j120), (1, .int r1), (0, .ref a_t)]) hx hb dX11_unit_120 rfl hl (by decide) rfl (fun ls hl => ?_)
      refine lv_iload_n hx hb dX11_unit_121 rfl (lv_at hl 0 rfl) ?_
      refine lv_iconst (v := (-1 : Int32)) hx hb dX11_unit_122 rfl ?_
      refine lv_icmp_ne (tgt := 132) hx hb dX11_unit_123 (by decide) (fun c5 => ?_) (fun c5 => ?_)
      · have h := zz_f h c5
        refine lv_aload_n hx hb dX11_unit_132 rfl (lv_at hl 2 rfl) ?_
        refine lv_dup hx hb dX11_unit_133 rfl ?_
        refine va_get (D := D) (ci := 11) (C := RX11) (T := TX11) (N := 16) hx hb hts qX11_unit_X11 hown hK hP 1 rfl rfl 7 (by decide) (hts _ kX11_unit_0) (fun _ h9 => h9) rfl dX11_unit_134 ?_
        refine lv_iconst (v := (nI 1)) hx hb dX11_unit_137 rfl ?_
        refine lv_iadd hx hb dX11_unit_138 ?_
        refine va_put (D := D) (ci := 11) (ty := .int) (C := RX11) (T := TX11) (N := 16) hx hb hts qX11_unit_X11 tyX11 tyX11_ok nmX11 hown hK hP hD hS 1 rfl rfl 7 (by decide) (hts _ kX11_unit_0) (fun _ h9 => h9) rfl (by decide +kernel) rfl (by first | rfl | exact zz_fit) (Nat.le_of_ble_eq_true rfl) dX11_unit_139 (fun H locs hP hD hS => ?_)
        have hP : va_P D vwCl [(a_t_now, .inl (cI, 1562, .inl t_now)), (a_t, .inr (11, [.int t_thrown, .ref a_t_now, .ref a_t_kept, .int t_isKept, .ref a_t_text, .int t_length, .ref a_t_passing, .int (t_at_r2 + (nI 1)), .int t_fault, .int t_open, .int t_asked, .int t_byGun, .int t_prizeMost, .ref a_t_order, .ref a_t_times, .int t_listed])), (a_t_text, .inl (cB, 200, .inl t_text))] H := hP
        have hD : va_D A [(a_t_now, .inl (cI, 1562, .inl t_now)), (a_t, .inr (11, [.int t_thrown, .ref a_t_now, .ref a_t_kept, .int t_isKept, .ref a_t_text, .int t_length, .ref a_t_passing, .int (t_at_r2 + (nI 1)), .int t_fault, .int t_open, .int t_asked, .int t_byGun, .int t_prizeMost, .ref a_t_order, .ref a_t_times, .int t_listed])), (a_t_text, .inl (cB, 200, .inl t_text))] := hD
        refine lv_aload_n hx hb dX11_unit_142 rfl (lv_at hl 2 rfl) ?_
        obtain ⟨⟨r6, t_at_r7⟩, e8, h⟩ := zz_b h
        dsimp only at h
        refine zVi (As := []) (rest := []) (C := RX11) (wr := [(a_t_now, .inl (cI, 1562, .inl t_now))]) [1, 2] [0] 0 ⟨hx, hb, hml, hown, hts⟩ (mX11_look l D cB cI cZ a_t a_t_now a_t_kept a_t_text a_t_passing a_t_order a_t_times t_thrown t_isKept t_length (t_at_r2 + (nI 1)) t_fault t_open t_asked t_byGun t_prizeMost t_listed t_text H.size N r6 t_at_r7 e8) (cwV 0 hts gX11_unit_X11_look rfl rfl rfl (by decide +kernel) ⟨Nat.le_of_ble_eq_true rfl, Nat.le_of_ble_eq_true rfl⟩) hK hN hZ hP hD hS hA rfl rfl rfl rfl rfl rfl rfl rfl hl.1 rfl (lv_room (Nat.le_of_ble_eq_true rfl)) dX11_unit_143 ⟨Nat.le_of_ble_eq_true rfl, Nat.le_of_ble_eq_true rfl⟩ (fun H locs hP hD hS => ?_)
        have hP : va_P D vwCl [(a_t_now, .inl (cI, 1562, .inl t_now)), (a_t, .inr (11, [.int t_thrown, .ref a_t_now, .ref a_t_kept, .int t_isKept, .ref a_t_text, .int t_length, .ref a_t_passing, .int t_at_r7, .int t_fault, .int t_open, .int t_asked, .int t_byGun, .int t_prizeMost, .ref a_t_order, .ref a_t_times, .int t_listed])), (a_t_text, .inl (cB, 200, .inl t_text))] H := hP
        have hD : va_D A [(a_t_now, .inl (cI, 1562, .inl t_now)), (a_t, .inr (11, [.int t_thrown, .ref a_t_now, .ref a_t_kept, .int t_isKept, .ref a_t_text, .int t_length, .ref a_t_passing, .int t_at_r7, .int t_fault, .int t_open, .int t_asked, .int t_byGun, .int t_prizeMost, .ref a_t_order, .ref a_t_times, .int t_listed])), (a_t_text, .inl (cB, 200, .inl t_text))] := hD
        refine lv_istore_n (lv' := [(3, .int r6), (2, .int s0_j120), (1, .int r1), (0, .ref a_t)]) hx hb dX11_unit_146 rfl hl (by decide) rfl (fun ls hl => ?_)
        refine lv_iload_n hx hb dX11_unit_147 rfl (lv_at hl 0 rfl) ?_
        refine lv_bipush (v := (nI 61)) hx hb dX11_unit_148 rfl ?_
        have J171 : ∀ (H : Heap) (locs : List Loc) (ls : Array Slot), fX11_unit_J171 N t_length t_fault t_open t_asked t_now t_text s0_j120 r6 t_at_r7 = some (b0, t_at', t_fault', t_open') → va_P D vwCl [(a_t_now, .inl (cI, 1562, .inl t_now)), (a_t, .inr (11, [.int t_thrown, .ref a_t_now, .ref a_t_kept, .int t_isKept, .ref a_t_text, .int t_length, .ref a_t_passing, .int t_at_r7, .int t_fault, .int t_open, .int t_asked, .int t_byGun, .int t_prizeMost, .ref a_t_order, .ref a_t_times, .int t_listed])), (a_t_text, .inl (cB, 200, .inl t_text))] H → va_D A [(a_t_now, .inl (cI, 1562, .inl t_now)), (a_t, .inr (11, [.int t_thrown, .ref a_t_now, .ref a_t_kept, .int t_isKept, .ref a_t_text, .int t_length, .ref a_t_passing, .int t_at_r7, .int t_fault, .int t_open, .int t_asked, .int t_byGun, .int t_prizeMost, .ref a_t_order, .ref a_t_times, .int t_listed])), (a_t_text, .inl (cB, 200, .inl t_text))] → va_S A s.heap H locs → lv_has ls 6 [(3, .int r6), (2, .int s0_j120), (1, .int r1), (0, .ref a_t)] → W p l e (headSpec wsX11_unit ({ frames := 17, cells := 0, slots := 0, locals := 387 } : Room)).room s m #[Value.ref a_t] below meth c H locs 0 0 (MQ below (zQi (zb b0) D (zT cB cI cZ) [(a_t, .inr (11, [.int t_thrown, .ref a_t_now, .ref a_t_kept, .int t_isKept, .ref a_t_text, .int t_length, .ref a_t_passing, .int t_at', .int t_fault', .int t_open', .int t_asked, .int t_byGun, .int t_prizeMost, .ref a_t_order, .ref a_t_times, .int t_listed])), (a_t_now, .inl (cI, 1562, .inl t_now)), (a_t_text, .inl (cB, 200, .inl t_text))] A) #[Value.ref a_t] s 0 0 A) (F0 m 171 ls []) := by
          intro  H locs ls h hP hD hS hl
          unfold fX11_unit_J171 at h
          refine lv_aload_n hx hb dX11_unit_171 rfl (lv_at hl 3 rfl) ?_
          refine lv_dup hx hb dX11_unit_172 rfl ?_
          refine va_get (D := D) (ci := 11) (C := RX11) (T := TX11) (N := 16) hx hb hts qX11_unit_X11 hown hK hP 1 rfl rfl 7 (by decide) (hts _ kX11_unit_0) (fun _ h9 => h9) rfl dX11_unit_173 ?_
          refine lv_iconst (v := (nI 1)) hx hb dX11_unit_176 rfl ?_
          refine lv_iadd hx hb dX11_unit_177 ?_
          refine va_put (D := D) (ci := 11) (ty := .int) (C := RX11) (T := TX11) (N := 16) hx hb hts qX11_unit_X11 tyX11 tyX11_ok nmX11 hown hK hP hD hS 1 rfl rfl 7 (by decide) (hts _ kX11_unit_0) (fun _ h9 => h9) rfl (by decide +kernel) rfl (by first | rfl | exact zz_fit) (Nat.le_of_ble_eq_true rfl) dX11_unit_178 (fun H locs hP hD hS => ?_)
          have hP : va_P D vwCl [(a_t_now, .inl (cI, 1562, .inl t_now)), (a_t, .inr (11, [.int t_thrown, .ref a_t_now, .ref a_t_kept, .int t_isKept, .ref a_t_text, .int t_length, .ref a_t_passing, .int (t_at_r7 + (nI 1)), .int t_fault, .int t_open, .int t_asked, .int t_byGun, .int t_prizeMost, .ref a_t_order, .ref a_t_times, .int t_listed])), (a_t_text, .inl (cB, 200, .inl t_text))] H := hP
          have hD : va_D A [(a_t_now, .inl (cI, 1562, .inl t_now)), (a_t, .inr (11, [.int t_thrown, .ref a_t_now, .ref a_t_kept, .int t_isKept, .ref a_t_text, .int t_length, .ref a_t_passing, .int (t_at_r7 + (nI 1)), .int t_fault, .int t_open, .int t_asked, .int t_byGun, .int t_prizeMost, .ref a_t_order, .ref a_t_times, .int t_listed])), (a_t_text, .inl (cB, 200, .inl t_text))] := hD
          refine lv_aload_n hx hb dX11_unit_181 rfl (lv_at hl 3 rfl) ?_
          obtain ⟨⟨r9, t_at_r10, t_fault_r11⟩, e12, h⟩ := zz_b h
          dsimp only at h
          refine zVi (As := []) (rest := []) (C := RX11) (wr := [(a_t_now, .inl (cI, 1562, .inl t_now))]) [1, 2] [0] 0 ⟨hx, hb, hml, hown, hts⟩ (mX11_number l D cB cI cZ a_t a_t_now a_t_kept a_t_text a_t_passing a_t_order a_t_times t_thrown t_isKept t_length (t_at_r7 + (nI 1)) t_fault t_open t_asked t_byGun t_prizeMost t_listed t_text H.size N r9 t_at_r10 t_fault_r11 e12) (cwV 0 hts gX11_unit_X11_number rfl rfl rfl (by decide +kernel) ⟨Nat.le_of_ble_eq_true rfl, Nat.le_of_ble_eq_true rfl⟩) hK hN hZ hP hD hS hA rfl rfl rfl rfl rfl rfl rfl rfl hl.1 rfl (lv_room (Nat.le_of_ble_eq_true rfl)) dX11_unit_182 ⟨Nat.le_of_ble_eq_true rfl, Nat.le_of_ble_eq_true rfl⟩ (fun H locs hP hD hS => ?_)
          have hP : va_P D vwCl [(a_t_now, .inl (cI, 1562, .inl t_now)), (a_t, .inr (11, [.int t_thrown, .ref a_t_now, .ref a_t_kept, .int t_isKept, .ref a_t_text, .int t_length, .ref a_t_passing, .int t_at_r10, .int t_fault_r11, .int t_open, .int t_asked, .int t_byGun, .int t_prizeMost, .ref a_t_order, .ref a_t_times, .int t_listed])), (a_t_text, .inl (cB, 200, .inl t_text))] H := hP
          have hD : va_D A [(a_t_now, .inl (cI, 1562, .inl t_now)), (a_t, .inr (11, [.int t_thrown, .ref a_t_now, .ref a_t_kept, .int t_isKept, .ref a_t_text, .int t_length, .ref a_t_passing, .int t_at_r10, .int t_fault_r11, .int t_open, .int t_asked, .int t_byGun, .int t_prizeMost, .ref a_t_order, .ref a_t_times, .int t_listed])), (a_t_text, .inl (cB, 200, .inl t_text))] := hD
          refine lv_istore (lv' := [(4, .int r9), (3, .int r6), (2, .int s0_j120), (1, .int r1), (0, .ref a_t)]) hx hb dX11_unit_185 hl (by decide) rfl (fun ls hl => ?_)
          refine lv_aload_n hx hb dX11_unit_187 rfl (lv_at hl 4 rfl) ?_
          refine va_get (D := D) (ci := 11) (C := RX11) (T := TX11) (N := 16) hx hb hts qX11_unit_X11 hown hK hP 1 rfl rfl 10 (by decide) (hts _ kX11_unit_2) (fun _ h9 => h9) rfl dX11_unit_188 ?_
          refine lv_iconst (v := (-1 : Int32)) hx hb dX11_unit_191 rfl ?_
          refine lv_icmp_ne (tgt := 199) hx hb dX11_unit_192 (by decide) (fun c13 => ?_) (fun c13 => ?_)
          · have h := zz_f h c13
            refine lv_aload_n hx hb dX11_unit_199 rfl (lv_at hl 4 rfl) ?_
            refine lv_aload_n hx hb dX11_unit_200 rfl (lv_at hl 4 rfl) ?_
            refine va_get (D := D) (ci := 11) (C := RX11) (T := TX11) (N := 16) hx hb hts qX11_unit_X11 hown hK hP 1 rfl rfl 10 (by decide) (hts _ kX11_unit_2) (fun _ h9 => h9) rfl dX11_unit_201 ?_
            refine lv_iload_n hx hb dX11_unit_204 rfl (lv_at hl 2 rfl) ?_
            obtain ⟨r14, e15, h⟩ := zz_b h
            refine zVi (As := [.int t_asked, .int s0_j120]) (rest := []) (C := RX11) (wr := [(a_t_text, .inl (cB, 200, .inl t_text))]) [1, 0] [2] 0 ⟨hx, hb, hml, hown, hts⟩ (mX11_of l D cB cI cZ a_t a_t_now a_t_kept a_t_text a_t_passing a_t_order a_t_times t_thrown t_isKept t_length t_at_r10 t_fault_r11 t_open t_asked t_byGun t_prizeMost t_listed t_now H.size t_asked s0_j120 r14 e15) (cwV 2 hts gX11_unit_X11_of rfl rfl rfl (by decide +kernel) ⟨Nat.le_of_ble_eq_true rfl, Nat.le_of_ble_eq_true rfl⟩) hK hN hZ hP hD hS hA rfl rfl rfl rfl rfl rfl rfl rfl hl.1 rfl (lv_room (Nat.le_of_ble_eq_true rfl)) dX11_unit_205 ⟨Nat.le_of_ble_eq_true rfl, Nat.le_of_ble_eq_true rfl⟩ (fun H locs hP hD hS => ?_)
            have hP : va_P D vwCl [(a_t_text, .inl (cB, 200, .inl t_text)), (a_t, .inr (11, [.int t_thrown, .ref a_t_now, .ref a_t_kept, .int t_isKept, .ref a_t_text, .int t_length, .ref a_t_passing, .int t_at_r10, .int t_fault_r11, .int t_open, .int t_asked, .int t_byGun, .int t_prizeMost, .ref a_t_order, .ref a_t_times, .int t_listed])), (a_t_now, .inl (cI, 1562, .inl t_now))] H := hP
            have hD : va_D A [(a_t_text, .inl (cB, 200, .inl t_text)), (a_t, .inr (11, [.int t_thrown, .ref a_t_now, .ref a_t_kept, .int t_isKept, .ref a_t_text, .int t_length, .ref a_t_passing, .int t_at_r10, .int t_fault_r11, .int t_open, .int t_asked, .int t_byGun, .int t_prizeMost, .ref a_t_order, .ref a_t_times, .int t_listed])), (a_t_now, .inl (cI, 1562, .inl t_now))] := hD
            refine lv_istore (lv' := [(5, .int r14), (4, .int r9), (3, .int r6), (2, .int s0_j120), (1, .int r1), (0, .ref a_t)]) hx hb dX11_unit_208 hl (by decide) rfl (fun ls hl => ?_)
            refine lv_iload_n hx hb dX11_unit_210 rfl (lv_at hl 2 rfl) ?_
            refine lv_bipush (v := (nI 61)) hx hb dX11_unit_211 rfl ?_
            refine lv_icmp_ne (tgt := 231) hx hb dX11_unit_213 (by decide) (fun c16 => ?_) (fun c16 => ?_)
            · have h := zz_f h c16
              refine lv_iload_n hx hb dX11_unit_231 rfl (lv_at hl 2 rfl) ?_
              refine lv_bipush (v := (nI 60)) hx hb dX11_unit_232 rfl ?_
              refine lv_icmp_ne (tgt := 252) hx hb dX11_unit_234 (by decide) (fun c17 => ?_) (fun c17 => ?_)
              · have h := zz_f h c17
                refine lv_iload hx hb dX11_unit_252 (lv_at hl 0 rfl) ?_
                refine lv_iload hx hb dX11_unit_254 (lv_at hl 1 rfl) ?_
                refine lv_icmp_le (tgt := 263) hx hb dX11_unit_256 (by decide) (fun c18 => ?_) (fun c18 => ?_)
                · have h := zz_t h c18
                  refine lv_iconst (v := (nI 0)) hx hb dX11_unit_263 rfl ?_
                  obtain ⟨j0_, g_⟩ := Prod.mk.inj (Option.some.inj h)
                  obtain ⟨j1_, g_⟩ := Prod.mk.inj g_
                  obtain ⟨j2_, g_⟩ := Prod.mk.inj g_
                  have j3_ := g_
                  subst j0_
                  subst j1_
                  subst j2_
                  subst j3_
                  exact W.zret (v := (nI 0)) hx hb hr rfl (fun t ht hW => ⟨⟨_, (), rfl, rfl, zPost.of hP hD hK ht hW [1, 2, 0] rfl rfl rfl⟩, hS.F ht⟩) hS.2.2 dX11_unit_264
                · have h := zz_f h c18
                  refine lv_iconst (v := (nI 1)) hx hb dX11_unit_259 rfl ?_
                  refine lv_goto (tgt := 264) hx hb dX11_unit_260 (by decide) ?_
                  obtain ⟨j0_, g_⟩ := Prod.mk.inj (Option.some.inj h)
                  obtain ⟨j1_, g_⟩ := Prod.mk.inj g_
                  obtain ⟨j2_, g_⟩ := Prod.mk.inj g_
                  have j3_ := g_
                  subst j0_
                  subst j1_
                  subst j2_
                  subst j3_
                  exact W.zret (v := (nI 1)) hx hb hr rfl (fun t ht hW => ⟨⟨_, (), rfl, rfl, zPost.of hP hD hK ht hW [1, 2, 0] rfl rfl rfl⟩, hS.F ht⟩) hS.2.2 dX11_unit_264
              · have h := zz_t h c17
                refine lv_iload hx hb dX11_unit_237 (lv_at hl 0 rfl) ?_
                refine lv_iload hx hb dX11_unit_239 (lv_at hl 1 rfl) ?_
                refine lv_icmp_ge (tgt := 248) hx hb dX11_unit_241 (by decide) (fun c19 => ?_) (fun c19 => ?_)
                · have h := zz_t h c19
                  refine lv_iconst (v := (nI 0)) hx hb dX11_unit_248 rfl ?_
                  refine lv_goto (tgt := 264) hx hb dX11_unit_249 (by decide) ?_
                  obtain ⟨j0_, g_⟩ := Prod.mk.inj (Option.some.inj h)
                  obtain ⟨j1_, g_⟩ := Prod.mk.inj g_
                  obtain ⟨j2_, g_⟩ := Prod.mk.inj g_
                  have j3_ := g_
                  subst j0_
                  subst j1_
                  subst j2_
                  subst j3_
                  exact W.zret (v := (nI 0)) hx hb hr rfl (fun t ht hW => ⟨⟨_, (), rfl, rfl, zPost.of hP hD hK ht hW [1, 2, 0] rfl rfl rfl⟩, hS.F ht⟩) hS.2.2 dX11_unit_264
                · have h := zz_f h c19
                  refine lv_iconst (v := (nI 1)) hx hb dX11_unit_244 rfl ?_
                  refine lv_goto (tgt := 264) hx hb dX11_unit_245 (by decide) ?_
                  obtain ⟨j0_, g_⟩ := Prod.mk.inj (Option.some.inj h)
                  obtain ⟨j1_, g_⟩ := Prod.mk.inj g_
                  obtain ⟨j2_, g_⟩ := Prod.mk.inj g_
                  have j3_ := g_
                  subst j0_
                  subst j1_
                  subst j2_
                  subst j3_
                  exact W.zret (v := (nI 1)) hx hb hr rfl (fun t ht hW => ⟨⟨_, (), rfl, rfl, zPost.of hP hD hK ht hW [1, 2, 0] rfl rfl rfl⟩, hS.F ht⟩) hS.2.2 dX11_unit_264
            · have h := zz_t h c16
              refine lv_iload hx hb dX11_unit_216 (lv_at hl 0 rfl) ?_
              refine lv_iload hx hb dX11_unit_218 (lv_at hl 1 rfl) ?_
              refine lv_icmp_ne (tgt := 227) hx hb dX11_unit_220 (by decide) (fun c20 => ?_) (fun c20 => ?_)
              · have h := zz_f h c20
                refine lv_iconst (v := (nI 0)) hx hb dX11_unit_227 rfl ?_
                refine lv_goto (tgt := 264) hx hb dX11_unit_228 (by decide) ?_
                obtain ⟨j0_, g_⟩ := Prod.mk.inj (Option.some.inj h)
                obtain ⟨j1_, g_⟩ := Prod.mk.inj g_
                obtain ⟨j2_, g_⟩ := Prod.mk.inj g_
                have j3_ := g_
                subst j0_
                subst j1_
                subst j2_
                subst j3_
                exact W.zret (v := (nI 0)) hx hb hr rfl (fun t ht hW => ⟨⟨_, (), rfl, rfl, zPost.of hP hD hK ht hW [1, 2, 0] rfl rfl rfl⟩, hS.F ht⟩) hS.2.2 dX11_unit_264
              · have h := zz_t h c20
                refine lv_iconst (v := (nI 1)) hx hb dX11_unit_223 rfl ?_
                refine lv_goto (tgt := 264) hx hb dX11_unit_224 (by decide) ?_
                obtain ⟨j0_, g_⟩ := Prod.mk.inj (Option.some.inj h)
                obtain ⟨j1_, g_⟩ := Prod.mk.inj g_
                obtain ⟨j2_, g_⟩ := Prod.mk.inj g_
                have j3_ := g_
                subst j0_
                subst j1_
                subst j2_
                subst j3_
                exact W.zret (v := (nI 1)) hx hb hr rfl (fun t ht hW => ⟨⟨_, (), rfl, rfl, zPost.of hP hD hK ht hW [1, 2, 0] rfl rfl rfl⟩, hS.F ht⟩) hS.2.2 dX11_unit_264
          · have h := zz_t h c13
            refine lv_iconst (v := (nI 0)) hx hb dX11_unit_195 rfl ?_
            refine lv_goto (tgt := 208) hx hb dX11_unit_196 (by decide) ?_
            refine lv_istore (lv' := [(5, .int (nI 0)), (4, .int r9), (3, .int r6), (2, .int s0_j120), (1, .int r1), (0, .ref a_t)]) hx hb dX11_unit_208 hl (by decide) rfl (fun ls hl => ?_)
            refine lv_iload_n hx hb dX11_unit_210 rfl (lv_at hl 2 rfl) ?_
            refine lv_bipush (v := (nI 61)) hx hb dX11_unit_211 rfl ?_
            refine lv_icmp_ne (tgt := 231) hx hb dX11_unit_213 (by decide) (fun c21 => ?_) (fun c21 => ?_)
            · have h := zz_f h c21
              refine lv_iload_n hx hb dX11_unit_231 rfl (lv_at hl 2 rfl) ?_
              refine lv_bipush (v := (nI 60)) hx hb dX11_unit_232 rfl ?_
              refine lv_icmp_ne (tgt := 252) hx hb dX11_unit_234 (by decide) (fun c22 => ?_) (fun c22 => ?_)
              · have h := zz_f h c22
                refine lv_iload hx hb dX11_unit_252 (lv_at hl 0 rfl) ?_
                refine lv_iload hx hb dX11_unit_254 (lv_at hl 1 rfl) ?_
                refine lv_icmp_le (tgt := 263) hx hb dX11_unit_256 (by decide) (fun c23 => ?_) (fun c23 => ?_)
                · have h := zz_t h c23
                  refine lv_iconst (v := (nI 0)) hx hb dX11_unit_263 rfl ?_
                  obtain ⟨j0_, g_⟩ := Prod.mk.inj (Option.some.inj h)
                  obtain ⟨j1_, g_⟩ := Prod.mk.inj g_
                  obtain ⟨j2_, g_⟩ := Prod.mk.inj g_
                  have j3_ := g_
                  subst j0_
                  subst j1_
                  subst j2_
                  subst j3_
                  exact W.zret (v := (nI 0)) hx hb hr rfl (fun t ht hW => ⟨⟨_, (), rfl, rfl, zPost.of hP hD hK ht hW [1, 0, 2] rfl rfl rfl⟩, hS.F ht⟩) hS.2.2 dX11_unit_264
                · have h := zz_f h c23
                  refine lv_iconst (v := (nI 1)) hx hb dX11_unit_259 rfl ?_
                  refine lv_goto (tgt := 264) hx hb dX11_unit_260 (by decide) ?_
                  obtain ⟨j0_, g_⟩ := Prod.mk.inj (Option.some.inj h)
                  obtain ⟨j1_, g_⟩ := Prod.mk.inj g_
                  obtain ⟨j2_, g_⟩ := Prod.mk.inj g_
                  have j3_ := g_
                  subst j0_
                  subst j1_
                  subst j2_
                  subst j3_
                  exact W.zret (v := (nI 1)) hx hb hr rfl (fun t ht hW => ⟨⟨_, (), rfl, rfl, zPost.of hP hD hK ht hW [1, 0, 2] rfl rfl rfl⟩, hS.F ht⟩) hS.2.2 dX11_unit_264
              · have h := zz_t h c22
                refine lv_iload hx hb dX11_unit_237 (lv_at hl 0 rfl) ?_
                refine lv_iload hx hb dX11_unit_239 (lv_at hl 1 rfl) ?_
                refine lv_icmp_ge (tgt := 248) hx hb dX11_unit_241 (by decide) (fun c24 => ?_) (fun c24 => ?_)
                · have h := zz_t h c24
                  refine lv_iconst (v := (nI 0)) hx hb dX11_unit_248 rfl ?_
                  refine lv_goto (tgt := 264) hx hb dX11_unit_249 (by decide) ?_
                  obtain ⟨j0_, g_⟩ := Prod.mk.inj (Option.some.inj h)
                  obtain ⟨j1_, g_⟩ := Prod.mk.inj g_
                  obtain ⟨j2_, g_⟩ := Prod.mk.inj g_
                  have j3_ := g_
                  subst j0_
                  subst j1_
                  subst j2_
                  subst j3_
                  exact W.zret (v := (nI 0)) hx hb hr rfl (fun t ht hW => ⟨⟨_, (), rfl, rfl, zPost.of hP hD hK ht hW [1, 0, 2] rfl rfl rfl⟩, hS.F ht⟩) hS.2.2 dX11_unit_264
                · have h := zz_f h c24
                  refine lv_iconst (v := (nI 1)) hx hb dX11_unit_244 rfl ?_
                  refine lv_goto (tgt := 264) hx hb dX11_unit_245 (by decide) ?_
                  obtain ⟨j0_, g_⟩ := Prod.mk.inj (Option.some.inj h)
                  obtain ⟨j1_, g_⟩ := Prod.mk.inj g_
                  obtain ⟨j2_, g_⟩ := Prod.mk.inj g_
                  have j3_ := g_
                  subst j0_
                  subst j1_
                  subst j2_
                  subst j3_
                  exact W.zret (v := (nI 1)) hx hb hr rfl (fun t ht hW => ⟨⟨_, (), rfl, rfl, zPost.of hP hD hK ht hW [1, 0, 2] rfl rfl rfl⟩, hS.F ht⟩) hS.2.2 dX11_unit_264
            · have h := zz_t h c21
              refine lv_iload hx hb dX11_unit_216 (lv_at hl 0 rfl) ?_
              refine lv_iload hx hb dX11_unit_218 (lv_at hl 1 rfl) ?_
              refine lv_icmp_ne (tgt := 227) hx hb dX11_unit_220 (by decide) (fun c25 => ?_) (fun c25 => ?_)
              · have h := zz_f h c25
                refine lv_iconst (v := (nI 0)) hx hb dX11_unit_227 rfl ?_
                refine lv_goto (tgt := 264) hx hb dX11_unit_228 (by decide) ?_
                obtain ⟨j0_, g_⟩ := Prod.mk.inj (Option.some.inj h)
                obtain ⟨j1_, g_⟩ := Prod.mk.inj g_
                obtain ⟨j2_, g_⟩ := Prod.mk.inj g_
                have j3_ := g_
                subst j0_
                subst j1_
                subst j2_
                subst j3_
                exact W.zret (v := (nI 0)) hx hb hr rfl (fun t ht hW => ⟨⟨_, (), rfl, rfl, zPost.of hP hD hK ht hW [1, 0, 2] rfl rfl rfl⟩, hS.F ht⟩) hS.2.2 dX11_unit_264
              · have h := zz_t h c25
                refine lv_iconst (v := (nI 1)) hx hb dX11_unit_223 rfl ?_
                refine lv_goto (tgt := 264) hx hb dX11_unit_224 (by decide) ?_
                obtain ⟨j0_, g_⟩ := Prod.mk.inj (Option.some.inj h)
                obtain ⟨j1_, g_⟩ := Prod.mk.inj g_
                obtain ⟨j2_, g_⟩ := Prod.mk.inj g_
                have j3_ := g_
                subst j0_
                subst j1_
                subst j2_
                subst j3_
                exact W.zret (v := (nI 1)) hx hb hr rfl (fun t ht hW => ⟨⟨_, (), rfl, rfl, zPost.of hP hD hK ht hW [1, 0, 2] rfl rfl rfl⟩, hS.F ht⟩) hS.2.2 dX11_unit_264
        refine lv_icmp_eq (tgt := 171) hx hb dX11_unit_150 (by decide) (fun c26 => ?_) (fun c26 => ?_)
        · have h := zz_t h c26
          exact J171  _ _ _ h (hP.sub [0, 1, 2] rfl) (hD.sub [0, 1, 2] rfl rfl) hS (lv_sub hl [0, 1, 2, 3] rfl)
        · have h := zz_f h c26
          refine lv_iload_n hx hb dX11_unit_153 rfl (lv_at hl 0 rfl) ?_
          refine lv_bipush (v := (nI 60)) hx hb dX11_unit_154 rfl ?_
          refine lv_icmp_eq (tgt := 171) hx hb dX11_unit_156 (by decide) (fun c27 => ?_) (fun c27 => ?_)
          · have h := zz_t h c27
            exact J171  _ _ _ h (hP.sub [0, 1, 2] rfl) (hD.sub [0, 1, 2] rfl rfl) hS (lv_sub hl [0, 1, 2, 3] rfl)
          · have h := zz_f h c27
            refine lv_iload_n hx hb dX11_unit_159 rfl (lv_at hl 0 rfl) ?_
            refine lv_bipush (v := (nI 62)) hx hb dX11_unit_160 rfl ?_
            refine lv_icmp_eq (tgt := 171) hx hb dX11_unit_162 (by decide) (fun c28 => ?_) (fun c28 => ?_)
            · have h := zz_t h c28
              exact J171  _ _ _ h (hP.sub [0, 1, 2] rfl) (hD.sub [0, 1, 2] rfl rfl) hS (lv_sub hl [0, 1, 2, 3] rfl)
            · have h := zz_f h c28
              refine lv_aload_n hx hb dX11_unit_165 rfl (lv_at hl 3 rfl) ?_
              obtain ⟨t_fault_r29, e30, h⟩ := zz_b h
              refine zVv (As := []) (rest := []) (C := RX11) (wr := [(a_t_now, .inl (cI, 1562, .inl t_now)), (a_t_text, .inl (cB, 200, .inl t_text))]) [1] [0, 2] 0 ⟨hx, hb, hml, hown, hts⟩ (mX11_wrong l D cB cI cZ a_t a_t_now a_t_kept a_t_text a_t_passing a_t_order a_t_times t_thrown t_isKept t_length t_at_r7 t_fault t_open t_asked t_byGun t_prizeMost t_listed H.size t_fault_r29 e30) (cwV 0 hts gX11_unit_X11_wrong rfl rfl rfl (by decide +kernel) ⟨Nat.le_of_ble_eq_true rfl, Nat.le_of_ble_eq_true rfl⟩) hK hN hZ hP hD hS hA rfl rfl rfl rfl rfl rfl rfl rfl hl.1 rfl (lv_room (Nat.le_of_ble_eq_true rfl)) dX11_unit_166 ⟨Nat.le_of_ble_eq_true rfl, Nat.le_of_ble_eq_true rfl⟩ (fun H locs hP hD hS => ?_)
              have hP : va_P D vwCl [(a_t_now, .inl (cI, 1562, .inl t_now)), (a_t_text, .inl (cB, 200, .inl t_text)), (a_t, .inr (11, [.int t_thrown, .ref a_t_now, .ref a_t_kept, .int t_isKept, .ref a_t_text, .int t_length, .ref a_t_passing, .int t_at_r7, .int t_fault_r29, .int t_open, .int t_asked, .int t_byGun, .int t_prizeMost, .ref a_t_order, .ref a_t_times, .int t_listed]))] H := hP
              have hD : va_D A [(a_t_now, .inl (cI, 1562, .inl t_now)), (a_t_text, .inl (cB, 200, .inl t_text)), (a_t, .inr (11, [.int t_thrown, .ref a_t_now, .ref a_t_kept, .int t_isKept, .ref a_t_text, .int t_length, .ref a_t_passing, .int t_at_r7, .int t_fault_r29, .int t_open, .int t_asked, .int t_byGun, .int t_prizeMost, .ref a_t_order, .ref a_t_times, .int t_listed]))] := hD
              refine lv_iconst (v := (nI 0)) hx hb dX11_unit_169 rfl ?_
              obtain ⟨j0_, g_⟩ := Prod.mk.inj (Option.some.inj h)
              obtain ⟨j1_, g_⟩ := Prod.mk.inj g_
              obtain ⟨j2_, g_⟩ := Prod.mk.inj g_
              have j3_ := g_
              subst j0_
              subst j1_
              subst j2_
              subst j3_
              exact W.zret (v := (nI 0)) hx hb hr rfl (fun t ht hW => ⟨⟨_, (), rfl, rfl, zPost.of hP hD hK ht hW [2, 0, 1] rfl rfl rfl⟩, hS.F ht⟩) hS.2.2 dX11_unit_170
      · have h := zz_t h c5
        refine lv_aload_n hx hb dX11_unit_126 rfl (lv_at hl 2 rfl) ?_
        obtain ⟨t_fault_r31, e32, h⟩ := zz_b h
        refine zVv (As := []) (rest := []) (C := RX11) (wr := [(a_t_now, .inl (cI, 1562, .inl t_now)), (a_t_text, .inl (cB, 200, .inl t_text))]) [1] [0, 2] 0 ⟨hx, hb, hml, hown, hts⟩ (mX11_wrong l D cB cI cZ a_t a_t_now a_t_kept a_t_text a_t_passing a_t_order a_t_times t_thrown t_isKept t_length t_at_r2 t_fault t_open t_asked t_byGun t_prizeMost t_listed H.size t_fault_r31 e32) (cwV 0 hts gX11_unit_X11_wrong rfl rfl rfl (by decide +kernel) ⟨Nat.le_of_ble_eq_true rfl, Nat.le_of_ble_eq_true rfl⟩) hK hN hZ hP hD hS hA rfl rfl rfl rfl rfl rfl rfl rfl hl.1 rfl (lv_room (Nat.le_of_ble_eq_true rfl)) dX11_unit_127 ⟨Nat.le_of_ble_eq_true rfl, Nat.le_of_ble_eq_true rfl⟩ (fun H locs hP hD hS => ?_)
        have hP : va_P D vwCl [(a_t_now, .inl (cI, 1562, .inl t_now)), (a_t_text, .inl (cB, 200, .inl t_text)), (a_t, .inr (11, [.int t_thrown, .ref a_t_now, .ref a_t_kept, .int t_isKept, .ref a_t_text, .int t_length, .ref a_t_passing, .int t_at_r2, .int t_fault_r31, .int t_open, .int t_asked, .int t_byGun, .int t_prizeMost, .ref a_t_order, .ref a_t_times, .int t_listed]))] H := hP
        have hD : va_D A [(a_t_now, .inl (cI, 1562, .inl t_now)), (a_t_text, .inl (cB, 200, .inl t_text)), (a_t, .inr (11, [.int t_thrown, .ref a_t_now, .ref a_t_kept, .int t_isKept, .ref a_t_text, .int t_length, .ref a_t_passing, .int t_at_r2, .int t_fault_r31, .int t_open, .int t_asked, .int t_byGun, .int t_prizeMost, .ref a_t_order, .ref a_t_times, .int t_listed]))] := hD
        refine lv_iconst (v := (nI 0)) hx hb dX11_unit_130 rfl ?_
        obtain ⟨j0_, g_⟩ := Prod.mk.inj (Option.some.inj h)
        obtain ⟨j1_, g_⟩ := Prod.mk.inj g_
        obtain ⟨j2_, g_⟩ := Prod.mk.inj g_
        have j3_ := g_
        subst j0_
        subst j1_
        subst j2_
        subst j3_
        exact W.zret (v := (nI 0)) hx hb hr rfl (fun t ht hW => ⟨⟨_, (), rfl, rfl, zPost.of hP hD hK ht hW [2, 0, 1] rfl rfl rfl⟩, hS.F ht⟩) hS.2.2 dX11_unit_131
    refine lv_icmp_ne (tgt := 79) hx hb dX11_unit_72 (by decide) (fun c33 => ?_) (fun c33 => ?_)
    · have h := zz_f h c33
      refine lv_iload_n hx hb dX11_unit_79 rfl (lv_at hl 0 rfl) ?_
      refine lv_bipush (v := (nI 121)) hx hb dX11_unit_80 rfl ?_
      refine lv_icmp_ne (tgt := 89) hx hb dX11_unit_82 (by decide) (fun c34 => ?_) (fun c34 => ?_)
      · have h := zz_f h c34
        refine lv_iload_n hx hb dX11_unit_89 rfl (lv_at hl 0 rfl) ?_
        refine lv_bipush (v := (nI 116)) hx hb dX11_unit_90 rfl ?_
        refine lv_icmp_ne (tgt := 99) hx hb dX11_unit_92 (by decide) (fun c35 => ?_) (fun c35 => ?_)
        · have h := zz_f h c35
          refine lv_iload_n hx hb dX11_unit_99 rfl (lv_at hl 0 rfl) ?_
          refine lv_bipush (v := (nI 112)) hx hb dX11_unit_100 rfl ?_
          refine lv_icmp_ne (tgt := 109) hx hb dX11_unit_102 (by decide) (fun c36 => ?_) (fun c36 => ?_)
          · have h := zz_f h c36
            refine lv_iload_n hx hb dX11_unit_109 rfl (lv_at hl 0 rfl) ?_
            refine lv_bipush (v := (nI 107)) hx hb dX11_unit_110 rfl ?_
            refine lv_icmp_ne (tgt := 119) hx hb dX11_unit_112 (by decide) (fun c37 => ?_) (fun c37 => ?_)
            · have h := zz_f h c37
              refine lv_iconst (v := (-1 : Int32)) hx hb dX11_unit_119 rfl ?_
              exact J120 (-1 : Int32) _ _ _ h (hP.sub [0, 1, 2] rfl) (hD.sub [0, 1, 2] rfl rfl) hS (lv_sub hl [0, 1] rfl)
            · have h := zz_t h c37
              refine lv_iconst (v := (nI 0)) hx hb dX11_unit_115 rfl ?_
              refine lv_goto (tgt := 120) hx hb dX11_unit_116 (by decide) ?_
              exact J120 (nI 0) _ _ _ h (hP.sub [0, 1, 2] rfl) (hD.sub [0, 1, 2] rfl rfl) hS (lv_sub hl [0, 1] rfl)
          · have h := zz_t h c36
            refine lv_iconst (v := (nI 5)) hx hb dX11_unit_105 rfl ?_
            refine lv_goto (tgt := 120) hx hb dX11_unit_106 (by decide) ?_
            exact J120 (nI 5) _ _ _ h (hP.sub [0, 1, 2] rfl) (hD.sub [0, 1, 2] rfl rfl) hS (lv_sub hl [0, 1] rfl)
        · have h := zz_t h c35
          refine lv_iconst (v := (nI 4)) hx hb dX11_unit_95 rfl ?_
          refine lv_goto (tgt := 120) hx hb dX11_unit_96 (by decide) ?_
          exact J120 (nI 4) _ _ _ h (hP.sub [0, 1, 2] rfl) (hD.sub [0, 1, 2] rfl rfl) hS (lv_sub hl [0, 1] rfl)
      · have h := zz_t h c34
        refine lv_iconst (v := (nI 2)) hx hb dX11_unit_85 rfl ?_
        refine lv_goto (tgt := 120) hx hb dX11_unit_86 (by decide) ?_
        exact J120 (nI 2) _ _ _ h (hP.sub [0, 1, 2] rfl) (hD.sub [0, 1, 2] rfl rfl) hS (lv_sub hl [0, 1] rfl)
    · have h := zz_t h c33
      refine lv_iconst (v := (nI 3)) hx hb dX11_unit_75 rfl ?_
      refine lv_goto (tgt := 120) hx hb dX11_unit_76 (by decide) ?_
      exact J120 (nI 3) _ _ _ h (hP.sub [0, 1, 2] rfl) (hD.sub [0, 1, 2] rfl rfl) hS (lv_sub hl [0, 1] rfl)
  · have h := zz_t h c4
    refine lv_aload_n hx hb dX11_unit_11 rfl (lv_at hl 1 rfl) ?_
    refine va_get (D := D) (ci := 11) (C := RX11) (T := TX11) (N := 16) hx hb hts qX11_unit_X11 hown hK hP 1 rfl rfl 9 (by decide) (hts _ kX11_unit_3) (fun _ h9 => h9) rfl dX11_unit_12 ?_
    refine lv_bipush (v := (nI 8)) hx hb dX11_unit_15 rfl ?_
    refine lv_icmp_ne (tgt := 26) hx hb dX11_unit_17 (by decide) (fun c38 => ?_) (fun c38 => ?_)
    · have h := zz_f h c38
      refine lv_aload_n hx hb dX11_unit_26 rfl (lv_at hl 1 rfl) ?_
      refine lv_dup hx hb dX11_unit_27 rfl ?_
      refine va_get (D := D) (ci := 11) (C := RX11) (T := TX11) (N := 16) hx hb hts qX11_unit_X11 hown hK hP 1 rfl rfl 9 (by decide) (hts _ kX11_unit_3) (fun _ h9 => h9) rfl dX11_unit_28 ?_
      refine lv_iconst (v := (nI 1)) hx hb dX11_unit_31 rfl ?_
      refine lv_iadd hx hb dX11_unit_32 ?_
      refine va_put (D := D) (ci := 11) (ty := .int) (C := RX11) (T := TX11) (N := 16) hx hb hts qX11_unit_X11 tyX11 tyX11_ok nmX11 hown hK hP hD hS 1 rfl rfl 9 (by decide) (hts _ kX11_unit_3) (fun _ h9 => h9) rfl (by decide +kernel) rfl (by first | rfl | exact zz_fit) (Nat.le_of_ble_eq_true rfl) dX11_unit_33 (fun H locs hP hD hS => ?_)
      have hP : va_P D vwCl [(a_t_now, .inl (cI, 1562, .inl t_now)), (a_t, .inr (11, [.int t_thrown, .ref a_t_now, .ref a_t_kept, .int t_isKept, .ref a_t_text, .int t_length, .ref a_t_passing, .int t_at_r2, .int t_fault, .int (t_open + (nI 1)), .int t_asked, .int t_byGun, .int t_prizeMost, .ref a_t_order, .ref a_t_times, .int t_listed])), (a_t_text, .inl (cB, 200, .inl t_text))] H := hP
      have hD : va_D A [(a_t_now, .inl (cI, 1562, .inl t_now)), (a_t, .inr (11, [.int t_thrown, .ref a_t_now, .ref a_t_kept, .int t_isKept, .ref a_t_text, .int t_length, .ref a_t_passing, .int t_at_r2, .int t_fault, .int (t_open + (nI 1)), .int t_asked, .int t_byGun, .int t_prizeMost, .ref a_t_order, .ref a_t_times, .int t_listed])), (a_t_text, .inl (cB, 200, .inl t_text))] := hD
      refine lv_aload_n hx hb dX11_unit_36 rfl (lv_at hl 1 rfl) ?_
      refine lv_dup hx hb dX11_unit_37 rfl ?_
      refine va_get (D := D) (ci := 11) (C := RX11) (T := TX11) (N := 16) hx hb hts qX11_unit_X11 hown hK hP 1 rfl rfl 7 (by decide) (hts _ kX11_unit_0) (fun _ h9 => h9) rfl dX11_unit_38 ?_
      refine lv_iconst (v := (nI 1)) hx hb dX11_unit_41 rfl ?_
      refine lv_iadd hx hb dX11_unit_42 ?_
      refine va_put (D := D) (ci := 11) (ty := .int) (C := RX11) (T := TX11) (N := 16) hx hb hts qX11_unit_X11 tyX11 tyX11_ok nmX11 hown hK hP hD hS 1 rfl rfl 7 (by decide) (hts _ kX11_unit_0) (fun _ h9 => h9) rfl (by decide +kernel) rfl (by first | rfl | exact zz_fit) (Nat.le_of_ble_eq_true rfl) dX11_unit_43 (fun H locs hP hD hS => ?_)
      have hP : va_P D vwCl [(a_t_now, .inl (cI, 1562, .inl t_now)), (a_t, .inr (11, [.int t_thrown, .ref a_t_now, .ref a_t_kept, .int t_isKept, .ref a_t_text, .int t_length, .ref a_t_passing, .int (t_at_r2 + (nI 1)), .int t_fault, .int (t_open + (nI 1)), .int t_asked, .int t_byGun, .int t_prizeMost, .ref a_t_order, .ref a_t_times, .int t_listed])), (a_t_text, .inl (cB, 200, .inl t_text))] H := hP
      have hD : va_D A [(a_t_now, .inl (cI, 1562, .inl t_now)), (a_t, .inr (11, [.int t_thrown, .ref a_t_now, .ref a_t_kept, .int t_isKept, .ref a_t_text, .int t_length, .ref a_t_passing, .int (t_at_r2 + (nI 1)), .int t_fault, .int (t_open + (nI 1)), .int t_asked, .int t_byGun, .int t_prizeMost, .ref a_t_order, .ref a_t_times, .int t_listed])), (a_t_text, .inl (cB, 200, .inl t_text))] := hD
      refine lv_aload_n hx hb dX11_unit_46 rfl (lv_at hl 1 rfl) ?_
      obtain ⟨⟨b39, t_at_r40, t_fault_r41, t_open_r42⟩, e43, h⟩ := zz_b h
      dsimp only at h
      refine zVi (As := []) (rest := []) (C := RX11) (wr := []) [1, 0, 2] [] 0 ⟨hx, hb, hml, hown, hts⟩ (mX11_tests_4 l D cB cI cZ a_t a_t_now a_t_kept a_t_text a_t_passing a_t_order a_t_times t_thrown t_isKept t_length (t_at_r2 + (nI 1)) t_fault (t_open + (nI 1)) t_asked t_byGun t_prizeMost t_listed t_now t_text H.size N b39 t_at_r40 t_fault_r41 t_open_r42 (hT ▸ e43)) (cwV 0 hts gX11_unit_X11_tests rfl rfl rfl (by decide +kernel) ⟨Nat.le_of_ble_eq_true rfl, Nat.le_of_ble_eq_true rfl⟩) hK hN hZ hP hD hS hA rfl rfl rfl rfl rfl rfl rfl rfl hl.1 rfl (lv_room (Nat.le_of_ble_eq_true rfl)) dX11_unit_47 ⟨Nat.le_of_ble_eq_true rfl, Nat.le_of_ble_eq_true rfl⟩ (fun H locs hP hD hS => ?_)
      have hP : va_P D vwCl [(a_t, .inr (11, [.int t_thrown, .ref a_t_now, .ref a_t_kept, .int t_isKept, .ref a_t_text, .int t_length, .ref a_t_passing, .int t_at_r40, .int t_fault_r41, .int t_open_r42, .int t_asked, .int t_byGun, .int t_prizeMost, .ref a_t_order, .ref a_t_times, .int t_listed])), (a_t_now, .inl (cI, 1562, .inl t_now)), (a_t_text, .inl (cB, 200, .inl t_text))] H := hP
      have hD : va_D A [(a_t, .inr (11, [.int t_thrown, .ref a_t_now, .ref a_t_kept, .int t_isKept, .ref a_t_text, .int t_length, .ref a_t_passing, .int t_at_r40, .int t_fault_r41, .int t_open_r42, .int t_asked, .int t_byGun, .int t_prizeMost, .ref a_t_order, .ref a_t_times, .int t_listed])), (a_t_now, .inl (cI, 1562, .inl t_now)), (a_t_text, .inl (cB, 200, .inl t_text))] := hD
      refine lv_istore_n (lv' := [(2, .int (zb b39)), (1, .int r1), (0, .ref a_t)]) hx hb dX11_unit_50 rfl hl (by decide) rfl (fun ls hl => ?_)
      refine lv_aload_n hx hb dX11_unit_51 rfl (lv_at hl 2 rfl) ?_
      refine lv_bipush (v := (nI 41)) hx hb dX11_unit_52 rfl ?_
      obtain ⟨⟨t_at_r44, t_fault_r45⟩, e46, h⟩ := zz_b h
      dsimp only at h
      refine zVv (As := [.int (nI 41)]) (rest := []) (C := RX11) (wr := [(a_t_now, .inl (cI, 1562, .inl t_now))]) [0, 2] [1] 0 ⟨hx, hb, hml, hown, hts⟩ (mX11_sign l D cB cI cZ a_t a_t_now a_t_kept a_t_text a_t_passing a_t_order a_t_times t_thrown t_isKept t_length t_at_r40 t_fault_r41 t_open_r42 t_asked t_byGun t_prizeMost t_listed t_text H.size (nI 41) N t_at_r44 t_fault_r45 e46) (cwV 1 hts gX11_unit_X11_sign rfl rfl rfl (by decide +kernel) ⟨Nat.le_of_ble_eq_true rfl, Nat.le_of_ble_eq_true rfl⟩) hK hN hZ hP hD hS hA rfl rfl rfl rfl rfl rfl rfl rfl hl.1 rfl (lv_room (Nat.le_of_ble_eq_true rfl)) dX11_unit_54 ⟨Nat.le_of_ble_eq_true rfl, Nat.le_of_ble_eq_true rfl⟩ (fun H locs hP hD hS => ?_)
      have hP : va_P D vwCl [(a_t_now, .inl (cI, 1562, .inl t_now)), (a_t, .inr (11, [.int t_thrown, .ref a_t_now, .ref a_t_kept, .int t_isKept, .ref a_t_text, .int t_length, .ref a_t_passing, .int t_at_r44, .int t_fault_r45, .int t_open_r42, .int t_asked, .int t_byGun, .int t_prizeMost, .ref a_t_order, .ref a_t_times, .int t_listed])), (a_t_text, .inl (cB, 200, .inl t_text))] H := hP
      have hD : va_D A [(a_t_now, .inl (cI, 1562, .inl t_now)), (a_t, .inr (11, [.int t_thrown, .ref a_t_now, .ref a_t_kept, .int t_isKept, .ref a_t_text, .int t_length, .ref a_t_passing, .int t_at_r44, .int t_fault_r45, .int t_open_r42, .int t_asked, .int t_byGun, .int t_prizeMost, .ref a_t_order, .ref a_t_times, .int t_listed])), (a_t_text, .inl (cB, 200, .inl t_text))] := hD
      refine lv_aload_n hx hb dX11_unit_57 rfl (lv_at hl 2 rfl) ?_
      refine lv_dup hx hb dX11_unit_58 rfl ?_
      refine va_get (D := D) (ci := 11) (C := RX11) (T := TX11) (N := 16) hx hb hts qX11_unit_X11 hown hK hP 1 rfl rfl 9 (by decide) (hts _ kX11_unit_3) (fun _ h9 => h9) rfl dX11_unit_59 ?_
      refine lv_iconst (v := (nI 1)) hx hb dX11_unit_62 rfl ?_
      refine lv_isub hx hb dX11_unit_63 ?_
      refine va_put (D := D) (ci := 11) (ty := .int) (C := RX11) (T := TX11) (N := 16) hx hb hts qX11_unit_X11 tyX11 tyX11_ok nmX11 hown hK hP hD hS 1 rfl rfl 9 (by decide) (hts _ kX11_unit_3) (fun _ h9 => h9) rfl (by decide +kernel) rfl (by first | rfl | exact zz_fit) (Nat.le_of_ble_eq_true rfl) dX11_unit_64 (fun H locs hP hD hS => ?_)
      have hP : va_P D vwCl [(a_t_now, .inl (cI, 1562, .inl t_now)), (a_t, .inr (11, [.int t_thrown, .ref a_t_now, .ref a_t_kept, .int t_isKept, .ref a_t_text, .int t_length, .ref a_t_passing, .int t_at_r44, .int t_fault_r45, .int (t_open_r42 - (nI 1)), .int t_asked, .int t_byGun, .int t_prizeMost, .ref a_t_order, .ref a_t_times, .int t_listed])), (a_t_text, .inl (cB, 200, .inl t_text))] H := hP
      have hD : va_D A [(a_t_now, .inl (cI, 1562, .inl t_now)), (a_t, .inr (11, [.int t_thrown, .ref a_t_now, .ref a_t_kept, .int t_isKept, .ref a_t_text, .int t_length, .ref a_t_passing, .int t_at_r44, .int t_fault_r45, .int (t_open_r42 - (nI 1)), .int t_asked, .int t_byGun, .int t_prizeMost, .ref a_t_order, .ref a_t_times, .int t_listed])), (a_t_text, .inl (cB, 200, .inl t_text))] := hD
      refine lv_iload_n hx hb dX11_unit_67 rfl (lv_at hl 0 rfl) ?_
      obtain ⟨j0_, g_⟩ := Prod.mk.inj (Option.some.inj h)
      obtain ⟨j1_, g_⟩ := Prod.mk.inj g_
      obtain ⟨j2_, g_⟩ := Prod.mk.inj g_
      have j3_ := g_
      subst j0_
      subst j1_
      subst j2_
      subst j3_
      exact W.zret (v := (zb b39)) hx hb hr zz_n (fun t ht hW => ⟨⟨_, (), rfl, rfl, zPost.of hP hD hK ht hW [1, 0, 2] rfl rfl rfl⟩, hS.F ht⟩) hS.2.2 dX11_unit_68
    · have h := zz_t h c38
      refine lv_aload_n hx hb dX11_unit_20 rfl (lv_at hl 1 rfl) ?_
      obtain ⟨t_fault_r47, e48, h⟩ := zz_b h
      refine zVv (As := []) (rest := []) (C := RX11) (wr := [(a_t_now, .inl (cI, 1562, .inl t_now)), (a_t_text, .inl (cB, 200, .inl t_text))]) [1] [0, 2] 0 ⟨hx, hb, hml, hown, hts⟩ (mX11_wrong l D cB cI cZ a_t a_t_now a_t_kept a_t_text a_t_passing a_t_order a_t_times t_thrown t_isKept t_length t_at_r2 t_fault t_open t_asked t_byGun t_prizeMost t_listed H.size t_fault_r47 e48) (cwV 0 hts gX11_unit_X11_wrong rfl rfl rfl (by decide +kernel) ⟨Nat.le_of_ble_eq_true rfl, Nat.le_of_ble_eq_true rfl⟩) hK hN hZ hP hD hS hA rfl rfl rfl rfl rfl rfl rfl rfl hl.1 rfl (lv_room (Nat.le_of_ble_eq_true rfl)) dX11_unit_21 ⟨Nat.le_of_ble_eq_true rfl, Nat.le_of_ble_eq_true rfl⟩ (fun H locs hP hD hS => ?_)
      have hP : va_P D vwCl [(a_t_now, .inl (cI, 1562, .inl t_now)), (a_t_text, .inl (cB, 200, .inl t_text)), (a_t, .inr (11, [.int t_thrown, .ref a_t_now, .ref a_t_kept, .int t_isKept, .ref a_t_text, .int t_length, .ref a_t_passing, .int t_at_r2, .int t_fault_r47, .int t_open, .int t_asked, .int t_byGun, .int t_prizeMost, .ref a_t_order, .ref a_t_times, .int t_listed]))] H := hP
      have hD : va_D A [(a_t_now, .inl (cI, 1562, .inl t_now)), (a_t_text, .inl (cB, 200, .inl t_text)), (a_t, .inr (11, [.int t_thrown, .ref a_t_now, .ref a_t_kept, .int t_isKept, .ref a_t_text, .int t_length, .ref a_t_passing, .int t_at_r2, .int t_fault_r47, .int t_open, .int t_asked, .int t_byGun, .int t_prizeMost, .ref a_t_order, .ref a_t_times, .int t_listed]))] := hD
      refine lv_iconst (v := (nI 0)) hx hb dX11_unit_24 rfl ?_
      obtain ⟨j0_, g_⟩ := Prod.mk.inj (Option.some.inj h)
      obtain ⟨j1_, g_⟩ := Prod.mk.inj g_
      obtain ⟨j2_, g_⟩ := Prod.mk.inj g_
      have j3_ := g_
      subst j0_
      subst j1_
      subst j2_
      subst j3_
      exact W.zret (v := (nI 0)) hx hb hr rfl (fun t ht hW => ⟨⟨_, (), rfl, rfl, zPost.of hP hD hK ht hW [2, 0, 1] rfl rfl rfl⟩, hS.F ht⟩) hS.2.2 dX11_unit_25
set_option maxHeartbeats 4000000 in
set_option maxRecDepth 100000 in
theorem mX11_part_5 (l : Launch) (D : va_G) (cB cI cZ : ClassId) (a_t : Nat) (a_t_now : Nat) (a_t_kept : Nat) (a_t_text : Nat) (a_t_passing : Nat) (a_t_order : Nat) (a_t_times : Nat) (t_thrown : Int32) (t_isKept : Int32) (t_length : Int32) (t_at : Int32) (t_fault : Int32) (t_open : Int32) (t_asked : Int32) (t_byGun : Int32) (t_prizeMost : Int32) (t_listed : Int32) (t_now : Nat → Int32) (t_text : Nat → Int32) (sz : Nat) (N : Nat) (T : Int32 → Int32 → Int32 → Int32 → Int32 → (Nat → Int32) → (Nat → Int32) → Option (Bool × Int32 × Int32 × Int32)) (hT : T = fX11_testsD N 5) (b0 : Bool) (t_at' : Int32) (t_fault' : Int32) (t_open' : Int32) (h : fX11_part T N t_asked t_at t_fault t_length t_open t_now t_text = some (b0, t_at', t_fault', t_open')) : Met l yX11_part wsX11_part ({ frames := 18, cells := 0, slots := 0, locals := 412 } : Room) (va_Pc [.ref a_t] (zPre D (zT cB cI cZ) [(a_t, .inr (11, [.int t_thrown, .ref a_t_now, .ref a_t_kept, .int t_isKept, .ref a_t_text, .int t_length, .ref a_t_passing, .int t_at, .int t_fault, .int t_open, .int t_asked, .int t_byGun, .int t_prizeMost, .ref a_t_order, .ref a_t_times, .int t_listed])), (a_t_now, .inl (cI, 1562, .inl t_now)), (a_t_text, .inl (cB, 200, .inl t_text))] sz)) (zQi (zb b0) D (zT cB cI cZ) [(a_t, .inr (11, [.int t_thrown, .ref a_t_now, .ref a_t_kept, .int t_isKept, .ref a_t_text, .int t_length, .ref a_t_passing, .int t_at', .int t_fault', .int t_open', .int t_asked, .int t_byGun, .int t_prizeMost, .ref a_t_order, .ref a_t_times, .int t_listed])), (a_t_now, .inl (cI, 1562, .inl t_now)), (a_t_text, .inl (cB, 200, .inl t_text))] (va_A [(a_t, .inr (11, [.int t_thrown, .ref a_t_now, .ref a_t_kept, .int t_isKept, .ref a_t_text, .int t_length, .ref a_t_passing, .int t_at, .int t_fault, .int t_open, .int t_asked, .int t_byGun, .int t_prizeMost, .ref a_t_order, .ref a_t_times, .int t_listed])), (a_t_now, .inl (cI, 1562, .inl t_now)), (a_t_text, .inl (cB, 200, .inl t_text))] sz)) 0 0 (va_A [(a_t, .inr (11, [.int t_thrown, .ref a_t_now, .ref a_t_kept, .int t_isKept, .ref a_t_text, .int t_length, .ref a_t_passing, .int t_at, .int t_fault, .int t_open, .int t_asked, .int t_byGun, .int t_prizeMost, .ref a_t_order, .ref a_t_times, .int t_listed])), (a_t_now, .inl (cI, 1562, .inl t_now)), (a_t_text, .inl (cB, 200, .inl t_text))] sz) := by
  refine Met.ofW (cc := cX11_part) (maxL := 3) (ret := (some .boolean)) (by decide) rfl ?_
  intro p e s m args below meth c s₁ B hml hv
  obtain ⟨rfl, hsz, hP, hK, hN, hZ, hD0⟩ := hv
  have hx := B.exec
  have hb := B.bytes
  have hr := B.returns
  have hts := atoms_spec (ws := wsX11_part) B.pre
  have hown : s.vm.findClass RX11 = some m.cls := findClass_of_methodNamed B.named
  have hlocks := B.notSynchronized
  subst hsz
  have hD := hD0.self (sz := s.heap.size)
  generalize hAe : va_A [(a_t, .inr (11, [.int t_thrown, .ref a_t_now, .ref a_t_kept, .int t_isKept, .ref a_t_text, .int t_length, .ref a_t_passing, .int t_at, .int t_fault, .int t_open, .int t_asked, .int t_byGun, .int t_prizeMost, .ref a_t_order, .ref a_t_times, .int t_listed])), (a_t_now, .inl (cI, 1562, .inl t_now)), (a_t_text, .inl (cB, 200, .inl t_text))] s.heap.size = A at hD hZ ⊢
  have hA : ∀ q : Nat, s.heap.size ≤ q → A q := fun q h => by rw [← hAe]; exact Or.inr h
  have hS : va_S A s.heap s.heap [] := va_S.rf
  have hl := lv_entry ([.ref a_t]) (n := 3) (Nat.le_of_ble_eq_true rfl)
  rw [lg_entry_eq]
  generalize (lg_sl ([.ref a_t]) ++ List.replicate (3 - (lg_sl ([.ref a_t])).length) Slot.unset).toArray = ls at hl ⊢
  have hl : lv_has ls 3 [(0, .ref a_t)] := hl
  unfold fX11_part at h
  refine lv_aload_n hx hb dX11_part_0 rfl (lv_at hl 0 rfl) ?_
  obtain ⟨⟨b1, t_at_r2, t_fault_r3, t_open_r4⟩, e5, h⟩ := zz_b h
  dsimp only at h
  refine zVi (As := []) (rest := []) (C := RX11) (wr := []) [0, 1, 2] [] 0 ⟨hx, hb, hml, hown, hts⟩ (mX11_unit_5 l D cB cI cZ a_t a_t_now a_t_kept a_t_text a_t_passing a_t_order a_t_times t_thrown t_isKept t_length t_at t_fault t_open t_asked t_byGun t_prizeMost t_listed t_now t_text s.heap.size N T hT b1 t_at_r2 t_fault_r3 t_open_r4 e5) (cwV 0 hts gX11_part_X11_unit rfl rfl rfl (by decide +kernel) ⟨Nat.le_of_ble_eq_true rfl, Nat.le_of_ble_eq_true rfl⟩) hK hN hZ hP hD hS hA rfl rfl rfl rfl rfl rfl rfl rfl hl.1 rfl (lv_room (Nat.le_of_ble_eq_true rfl)) dX11_part_1 ⟨Nat.le_of_ble_eq_true rfl, Nat.le_of_ble_eq_true rfl⟩ (fun H locs hP hD hS => ?_)
  have hP : va_P D vwCl [(a_t, .inr (11, [.int t_thrown, .ref a_t_now, .ref a_t_kept, .int t_isKept, .ref a_t_text, .int t_length, .ref a_t_passing, .int t_at_r2, .int t_fault_r3, .int t_open_r4, .int t_asked, .int t_byGun, .int t_prizeMost, .ref a_t_order, .ref a_t_times, .int t_listed])), (a_t_now, .inl (cI, 1562, .inl t_now)), (a_t_text, .inl (cB, 200, .inl t_text))] H := hP
  have hD : va_D A [(a_t, .inr (11, [.int t_thrown, .ref a_t_now, .ref a_t_kept, .int t_isKept, .ref a_t_text, .int t_length, .ref a_t_passing, .int t_at_r2, .int t_fault_r3, .int t_open_r4, .int t_asked, .int t_byGun, .int t_prizeMost, .ref a_t_order, .ref a_t_times, .int t_listed])), (a_t_now, .inl (cI, 1562, .inl t_now)), (a_t_text, .inl (cB, 200, .inl t_text))] := hD
  refine lv_istore_n (lv' := [(1, .int (zb b1)), (0, .ref a_t)]) hx hb dX11_part_4 rfl hl (by decide) rfl (fun ls hl => ?_)
  have X5_53 : ∀ (v1_5 : Bool) (t_at_l5 : Int32) (t_fault_l5 : Int32) (t_open_l5 : Int32) (H : Heap) (locs : List Loc) (ls : Array Slot), some (v1_5, t_at_l5, t_fault_l5, t_open_l5) = some (b0, t_at', t_fault', t_open') → va_P D vwCl [(a_t, .inr (11, [.int t_thrown, .ref a_t_now, .ref a_t_kept, .int t_isKept, .ref a_t_text, .int t_length, .ref a_t_passing, .int t_at_l5, .int t_fault_l5, .int t_open_l5, .int t_asked, .int t_byGun, .int t_prizeMost, .ref a_t_order, .ref a_t_times, .int t_listed])), (a_t_now, .inl (cI, 1562, .inl t_now)), (a_t_text, .inl (cB, 200, .inl t_text))] H → va_D A [(a_t, .inr (11, [.int t_thrown, .ref a_t_now, .ref a_t_kept, .int t_isKept, .ref a_t_text, .int t_length, .ref a_t_passing, .int t_at_l5, .int t_fault_l5, .int t_open_l5, .int t_asked, .int t_byGun, .int t_prizeMost, .ref a_t_order, .ref a_t_times, .int t_listed])), (a_t_now, .inl (cI, 1562, .inl t_now)), (a_t_text, .inl (cB, 200, .inl t_text))] → va_S A s.heap H locs → lv_has ls 3 [(1, .int (zb v1_5)), (0, .ref a_t)] → W p l e (headSpec wsX11_part ({ frames := 18, cells := 0, slots := 0, locals := 412 } : Room)).room s m #[Value.ref a_t] below meth c H locs 0 0 (MQ below (zQi (zb b0) D (zT cB cI cZ) [(a_t, .inr (11, [.int t_thrown, .ref a_t_now, .ref a_t_kept, .int t_isKept, .ref a_t_text, .int t_length, .ref a_t_passing, .int t_at', .int t_fault', .int t_open', .int t_asked, .int t_byGun, .int t_prizeMost, .ref a_t_order, .ref a_t_times, .int t_listed])), (a_t_now, .inl (cI, 1562, .inl t_now)), (a_t_text, .inl (cB, 200, .inl t_text))] A) #[Value.ref a_t] s 0 0 A) (F0 m 53 ls []) := by
    intro v1_5 t_at_l5 t_fault_l5 t_open_l5 H locs ls h hP hD hS hl
    refine lv_iload_n hx hb dX11_part_53 rfl (lv_at hl 0 rfl) ?_
    obtain ⟨j0_, g_⟩ := Prod.mk.inj (Option.some.inj h)
    obtain ⟨j1_, g_⟩ := Prod.mk.inj g_
    obtain ⟨j2_, g_⟩ := Prod.mk.inj g_
    have j3_ := g_
    subst j0_
    subst j1_
    subst j2_
    subst j3_
    exact W.zret (v := (zb v1_5)) hx hb hr zz_n (fun t ht hW => ⟨⟨_, (), rfl, rfl, zPost.of hP hD hK ht hW [0, 1, 2] rfl rfl rfl⟩, hS.F ht⟩) hS.2.2 dX11_part_54
  have L5 : ∀ (n : Nat) (v1_5 : Bool) (t_at_l5 : Int32) (t_fault_l5 : Int32) (t_open_l5 : Int32) (H : Heap) (locs : List Loc) (ls : Array Slot), fX11_part_L5 N T t_length t_asked t_now t_text (fun (v1_5 : Bool) (t_at_l5 : Int32) (t_fault_l5 : Int32) (t_open_l5 : Int32) => some (v1_5, t_at_l5, t_fault_l5, t_open_l5)) n v1_5 t_at_l5 t_fault_l5 t_open_l5 = some (b0, t_at', t_fault', t_open') → va_P D vwCl [(a_t, .inr (11, [.int t_thrown, .ref a_t_now, .ref a_t_kept, .int t_isKept, .ref a_t_text, .int t_length, .ref a_t_passing, .int t_at_l5, .int t_fault_l5, .int t_open_l5, .int t_asked, .int t_byGun, .int t_prizeMost, .ref a_t_order, .ref a_t_times, .int t_listed])), (a_t_now, .inl (cI, 1562, .inl t_now)), (a_t_text, .inl (cB, 200, .inl t_text))] H → va_D A [(a_t, .inr (11, [.int t_thrown, .ref a_t_now, .ref a_t_kept, .int t_isKept, .ref a_t_text, .int t_length, .ref a_t_passing, .int t_at_l5, .int t_fault_l5, .int t_open_l5, .int t_asked, .int t_byGun, .int t_prizeMost, .ref a_t_order, .ref a_t_times, .int t_listed])), (a_t_now, .inl (cI, 1562, .inl t_now)), (a_t_text, .inl (cB, 200, .inl t_text))] → va_S A s.heap H locs → lv_has ls 3 [(1, .int (zb v1_5)), (0, .ref a_t)] → W p l e (headSpec wsX11_part ({ frames := 18, cells := 0, slots := 0, locals := 412 } : Room)).room s m #[Value.ref a_t] below meth c H locs 0 0 (MQ below (zQi (zb b0) D (zT cB cI cZ) [(a_t, .inr (11, [.int t_thrown, .ref a_t_now, .ref a_t_kept, .int t_isKept, .ref a_t_text, .int t_length, .ref a_t_passing, .int t_at', .int t_fault', .int t_open', .int t_asked, .int t_byGun, .int t_prizeMost, .ref a_t_order, .ref a_t_times, .int t_listed])), (a_t_now, .inl (cI, 1562, .inl t_now)), (a_t_text, .inl (cB, 200, .inl t_text))] A) #[Value.ref a_t] s 0 0 A) (F0 m 5 ls []) := by
    intro n
    induction n with
    | zero => intro _ _ _ _ H locs ls h hP hD hS hl; cases h
    | succ n5 ih5 =>
      intro v1_5 t_at_l5 t_fault_l5 t_open_l5 H locs ls h hP hD hS hl
      rw [fX11_part_L5.eq_2] at h
      refine lv_aload_n hx hb dX11_part_5 rfl (lv_at hl 1 rfl) ?_
      obtain ⟨b6, e7, h⟩ := zz_b h
      refine zVi (As := []) (rest := []) (C := RX11) (wr := [(a_t_now, .inl (cI, 1562, .inl t_now)), (a_t_text, .inl (cB, 200, .inl t_text))]) [0] [1, 2] 0 ⟨hx, hb, hml, hown, hts⟩ (mX11_isFine l D cB cI cZ a_t a_t_now a_t_kept a_t_text a_t_passing a_t_order a_t_times t_thrown t_isKept t_length t_at_l5 t_fault_l5 t_open_l5 t_asked t_byGun t_prizeMost t_listed H.size b6 e7) (cwV 0 hts gX11_part_X11_isFine rfl rfl rfl (by decide +kernel) ⟨Nat.le_of_ble_eq_true rfl, Nat.le_of_ble_eq_true rfl⟩) hK hN hZ hP hD hS hA rfl rfl rfl rfl rfl rfl rfl rfl hl.1 rfl (lv_room (Nat.le_of_ble_eq_true rfl)) dX11_part_6 ⟨Nat.le_of_ble_eq_true rfl, Nat.le_of_ble_eq_true rfl⟩ (fun H locs hP hD hS => ?_)
      have hP : va_P D vwCl [(a_t_now, .inl (cI, 1562, .inl t_now)), (a_t_text, .inl (cB, 200, .inl t_text)), (a_t, .inr (11, [.int t_thrown, .ref a_t_now, .ref a_t_kept, .int t_isKept, .ref a_t_text, .int t_length, .ref a_t_passing, .int t_at_l5, .int t_fault_l5, .int t_open_l5, .int t_asked, .int t_byGun, .int t_prizeMost, .ref a_t_order, .ref a_t_times, .int t_listed]))] H := hP
      have hD : va_D A [(a_t_now, .inl (cI, 1562, .inl t_now)), (a_t_text, .inl (cB, 200, .inl t_text)), (a_t, .inr (11, [.int t_thrown, .ref a_t_now, .ref a_t_kept, .int t_isKept, .ref a_t_text, .int t_length, .ref a_t_passing, .int t_at_l5, .int t_fault_l5, .int t_open_l5, .int t_asked, .int t_byGun, .int t_prizeMost, .ref a_t_order, .ref a_t_times, .int t_listed]))] := hD
      refine lv_if_eq (tgt := 53) hx hb dX11_part_9 (by decide) (fun c8 => ?_) (fun c8 => ?_)
      · have h := zz_t h c8
        exact X5_53 v1_5 t_at_l5 t_fault_l5 t_open_l5 _ _ _ h (hP.sub [2, 0, 1] rfl) (hD.sub [2, 0, 1] rfl rfl) hS (lv_sub hl [0, 1] rfl)
      · have h := zz_f h c8
        refine lv_aload_n hx hb dX11_part_12 rfl (lv_at hl 1 rfl) ?_
        obtain ⟨⟨r9, t_at_r10⟩, e11, h⟩ := zz_b h
        dsimp only at h
        refine zVi (As := []) (rest := []) (C := RX11) (wr := [(a_t_now, .inl (cI, 1562, .inl t_now))]) [2, 1] [0] 0 ⟨hx, hb, hml, hown, hts⟩ (mX11_look l D cB cI cZ a_t a_t_now a_t_kept a_t_text a_t_passing a_t_order a_t_times t_thrown t_isKept t_length t_at_l5 t_fault_l5 t_open_l5 t_asked t_byGun t_prizeMost t_listed t_text H.size N r9 t_at_r10 e11) (cwV 0 hts gX11_part_X11_look rfl rfl rfl (by decide +kernel) ⟨Nat.le_of_ble_eq_true rfl, Nat.le_of_ble_eq_true rfl⟩) hK hN hZ hP hD hS hA rfl rfl rfl rfl rfl rfl rfl rfl hl.1 rfl (lv_room (Nat.le_of_ble_eq_true rfl)) dX11_part_13 ⟨Nat.le_of_ble_eq_true rfl, Nat.le_of_ble_eq_true rfl⟩ (fun H locs hP hD hS => ?_)
        have hP : va_P D vwCl [(a_t_now, .inl (cI, 1562, .inl t_now)), (a_t, .inr (11, [.int t_thrown, .ref a_t_now, .ref a_t_kept, .int t_isKept, .ref a_t_text, .int t_length, .ref a_t_passing, .int t_at_r10, .int t_fault_l5, .int t_open_l5, .int t_asked, .int t_byGun, .int t_prizeMost, .ref a_t_order, .ref a_t_times, .int t_listed])), (a_t_text, .inl (cB, 200, .inl t_text))] H := hP
        have hD : va_D A [(a_t_now, .inl (cI, 1562, .inl t_now)), (a_t, .inr (11, [.int t_thrown, .ref a_t_now, .ref a_t_kept, .int t_isKept, .ref a_t_text, .int t_length, .ref a_t_passing, .int t_at_r10, .int t_fault_l5, .int t_open_l5, .int t_asked, .int t_byGun, .int t_prizeMost, .ref a_t_order, .ref a_t_times, .int t_listed])), (a_t_text, .inl (cB, 200, .inl t_text))] := hD
        refine lv_bipush (v := (nI 38)) hx hb dX11_part_16 rfl ?_
        refine lv_icmp_ne (tgt := 53) hx hb dX11_part_18 (by decide) (fun c12 => ?_) (fun c12 => ?_)
        · have h := zz_f h c12
          exact X5_53 v1_5 t_at_r10 t_fault_l5 t_open_l5 _ _ _ h (hP.sub [1, 0, 2] rfl) (hD.sub [1, 0, 2] rfl rfl) hS (lv_sub hl [0, 1] rfl)
        · have h := zz_t h c12
          refine lv_aload_n hx hb dX11_part_21 rfl (lv_at hl 1 rfl) ?_
          refine lv_dup hx hb dX11_part_22 rfl ?_
          refine va_get (D := D) (ci := 11) (C := RX11) (T := TX11) (N := 16) hx hb hts qX11_part_X11 hown hK hP 1 rfl rfl 7 (by decide) (hts _ kX11_part_0) (fun _ h9 => h9) rfl dX11_part_23 ?_
          refine lv_iconst (v := (nI 1)) hx hb dX11_part_26 rfl ?_
          refine lv_iadd hx hb dX11_part_27 ?_
          refine va_put (D := D) (ci := 11) (ty := .int) (C := RX11) (T := TX11) (N := 16) hx hb hts qX11_part_X11 tyX11 tyX11_ok nmX11 hown hK hP hD hS 1 rfl rfl 7 (by decide) (hts _ kX11_part_0) (fun _ h9 => h9) rfl (by decide +kernel) rfl (by first | rfl | exact zz_fit) (Nat.le_of_ble_eq_true rfl) dX11_part_28 (fun H locs hP hD hS => ?_)
          have hP : va_P D vwCl [(a_t_now, .inl (cI, 1562, .inl t_now)), (a_t, .inr (11, [.int t_thrown, .ref a_t_now, .ref a_t_kept, .int t_isKept, .ref a_t_text, .int t_length, .ref a_t_passing, .int (t_at_r10 + (nI 1)), .int t_fault_l5, .int t_open_l5, .int t_asked, .int t_byGun, .int t_prizeMost, .ref a_t_order, .ref a_t_times, .int t_listed])), (a_t_text, .inl (cB, 200, .inl t_text))] H := hP
          have hD : va_D A [(a_t_now, .inl (cI, 1562, .inl t_now)), (a_t, .inr (11, [.int t_thrown, .ref a_t_now, .ref a_t_kept, .int t_isKept, .ref a_t_text, .int t_length, .ref a_t_passing, .int (t_at_r10 + (nI 1)), .int t_fault_l5, .int t_open_l5, .int t_asked, .int t_byGun, .int t_prizeMost, .ref a_t_order, .ref a_t_times, .int t_listed])), (a_t_text, .inl (cB, 200, .inl t_text))] := hD
          refine lv_aload_n hx hb dX11_part_31 rfl (lv_at hl 1 rfl) ?_
          obtain ⟨⟨b13, t_at_r14, t_fault_r15, t_open_r16⟩, e17, h⟩ := zz_b h
          dsimp only at h
          refine zVi (As := []) (rest := []) (C := RX11) (wr := []) [1, 0, 2] [] 0 ⟨hx, hb, hml, hown, hts⟩ (mX11_unit_5 l D cB cI cZ a_t a_t_now a_t_kept a_t_text a_t_passing a_t_order a_t_times t_thrown t_isKept t_length (t_at_r10 + (nI 1)) t_fault_l5 t_open_l5 t_asked t_byGun t_prizeMost t_listed t_now t_text H.size N T hT b13 t_at_r14 t_fault_r15 t_open_r16 e17) (cwV 0 hts gX11_part_X11_unit rfl rfl rfl (by decide +kernel) ⟨Nat.le_of_ble_eq_true rfl, Nat.le_of_ble_eq_true rfl⟩) hK hN hZ hP hD hS hA rfl rfl rfl rfl rfl rfl rfl rfl hl.1 rfl (lv_room (Nat.le_of_ble_eq_true rfl)) dX11_part_32 ⟨Nat.le_of_ble_eq_true rfl, Nat.le_of_ble_eq_true rfl⟩ (fun H locs hP hD hS => ?_)
          have hP : va_P D vwCl [(a_t, .inr (11, [.int t_thrown, .ref a_t_now, .ref a_t_kept, .int t_isKept, .ref a_t_text, .int t_length, .ref a_t_passing, .int t_at_r14, .int t_fault_r15, .int t_open_r16, .int t_asked, .int t_byGun, .int t_prizeMost, .ref a_t_order, .ref a_t_times, .int t_listed])), (a_t_now, .inl (cI, 1562, .inl t_now)), (a_t_text, .inl (cB, 200, .inl t_text))] H := hP
          have hD : va_D A [(a_t, .inr (11, [.int t_thrown, .ref a_t_now, .ref a_t_kept, .int t_isKept, .ref a_t_text, .int t_length, .ref a_t_passing, .int t_at_r14, .int t_fault_r15, .int t_open_r16, .int t_asked, .int t_byGun, .int t_prizeMost, .ref a_t_order, .ref a_t_times, .int t_listed])), (a_t_now, .inl (cI, 1562, .inl t_now)), (a_t_text, .inl (cB, 200, .inl t_text))] := hD
          refine lv_istore_n (lv' := [(2, .int (zb b13)), (1, .int (zb v1_5)), (0, .ref a_t)]) hx hb dX11_part_35 rfl hl (by decide) rfl (fun ls hl => ?_)
          refine lv_iload_n hx hb dX11_part_36 rfl (lv_at hl 1 rfl) ?_
          refine lv_if_eq (tgt := 48) hx hb dX11_part_37 (by decide) (fun c18 => ?_) (fun c18 => ?_)
          · have h := zz_t h c18
            refine lv_iconst (v := (nI 0)) hx hb dX11_part_48 rfl ?_
            refine lv_istore_n (lv' := [(1, .int (nI 0)), (2, .int (zb b13)), (0, .ref a_t)]) hx hb dX11_part_49 rfl hl (by decide) rfl (fun ls hl => ?_)
            refine lv_goto (tgt := 5) hx hb dX11_part_50 (by decide) ?_
            exact ih5 false t_at_r14 t_fault_r15 t_open_r16 _ _ _ h (hP.sub [0, 1, 2] rfl) (hD.sub [0, 1, 2] rfl rfl) hS (lv_sub hl [0, 2] rfl)
          · have h := zz_f h c18
            refine lv_iload_n hx hb dX11_part_40 rfl (lv_at hl 0 rfl) ?_
            refine lv_if_eq (tgt := 48) hx hb dX11_part_41 (by decide) (fun c19 => ?_) (fun c19 => ?_)
            · have h := zz_t h c19
              refine lv_iconst (v := (nI 0)) hx hb dX11_part_48 rfl ?_
              refine lv_istore_n (lv' := [(1, .int (nI 0)), (2, .int (zb b13)), (0, .ref a_t)]) hx hb dX11_part_49 rfl hl (by decide) rfl (fun ls hl => ?_)
              refine lv_goto (tgt := 5) hx hb dX11_part_50 (by decide) ?_
              exact ih5 false t_at_r14 t_fault_r15 t_open_r16 _ _ _ h (hP.sub [0, 1, 2] rfl) (hD.sub [0, 1, 2] rfl rfl) hS (lv_sub hl [0, 2] rfl)
            · have h := zz_f h c19
              refine lv_iconst (v := (nI 1)) hx hb dX11_part_44 rfl ?_
              refine lv_goto (tgt := 49) hx hb dX11_part_45 (by decide) ?_
              refine lv_istore_n (lv' := [(1, .int (nI 1)), (2, .int (zb b13)), (0, .ref a_t)]) hx hb dX11_part_49 rfl hl (by decide) rfl (fun ls hl => ?_)
              refine lv_goto (tgt := 5) hx hb dX11_part_50 (by decide) ?_
              exact ih5 true t_at_r14 t_fault_r15 t_open_r16 _ _ _ h (hP.sub [0, 1, 2] rfl) (hD.sub [0, 1, 2] rfl rfl) hS (lv_sub hl [0, 2] rfl)
  exact L5 N b1 t_at_r2 t_fault_r3 t_open_r4 _ _ _ h hP hD hS hl
set_option maxHeartbeats 4000000 in
set_option maxRecDepth 100000 in
theorem mX11_tests_5 (l : Launch) (D : va_G) (cB cI cZ : ClassId) (a_t : Nat) (a_t_now : Nat) (a_t_kept : Nat) (a_t_text : Nat) (a_t_passing : Nat) (a_t_order : Nat) (a_t_times : Nat) (t_thrown : Int32) (t_isKept : Int32) (t_length : Int32) (t_at : Int32) (t_fault : Int32) (t_open : Int32) (t_asked : Int32) (t_byGun : Int32) (t_prizeMost : Int32) (t_listed : Int32) (t_now : Nat → Int32) (t_text : Nat → Int32) (sz : Nat) (N : Nat) (b0 : Bool) (t_at' : Int32) (t_fault' : Int32) (t_open' : Int32) (h : fX11_testsD N 6 t_asked t_at t_fault t_length t_open t_now t_text = some (b0, t_at', t_fault', t_open')) : Met l yX11_tests wsX11_tests ({ frames := 19, cells := 0, slots := 0, locals := 434 } : Room) (va_Pc [.ref a_t] (zPre D (zT cB cI cZ) [(a_t, .inr (11, [.int t_thrown, .ref a_t_now, .ref a_t_kept, .int t_isKept, .ref a_t_text, .int t_length, .ref a_t_passing, .int t_at, .int t_fault, .int t_open, .int t_asked, .int t_byGun, .int t_prizeMost, .ref a_t_order, .ref a_t_times, .int t_listed])), (a_t_now, .inl (cI, 1562, .inl t_now)), (a_t_text, .inl (cB, 200, .inl t_text))] sz)) (zQi (zb b0) D (zT cB cI cZ) [(a_t, .inr (11, [.int t_thrown, .ref a_t_now, .ref a_t_kept, .int t_isKept, .ref a_t_text, .int t_length, .ref a_t_passing, .int t_at', .int t_fault', .int t_open', .int t_asked, .int t_byGun, .int t_prizeMost, .ref a_t_order, .ref a_t_times, .int t_listed])), (a_t_now, .inl (cI, 1562, .inl t_now)), (a_t_text, .inl (cB, 200, .inl t_text))] (va_A [(a_t, .inr (11, [.int t_thrown, .ref a_t_now, .ref a_t_kept, .int t_isKept, .ref a_t_text, .int t_length, .ref a_t_passing, .int t_at, .int t_fault, .int t_open, .int t_asked, .int t_byGun, .int t_prizeMost, .ref a_t_order, .ref a_t_times, .int t_listed])), (a_t_now, .inl (cI, 1562, .inl t_now)), (a_t_text, .inl (cB, 200, .inl t_text))] sz)) 0 0 (va_A [(a_t, .inr (11, [.int t_thrown, .ref a_t_now, .ref a_t_kept, .int t_isKept, .ref a_t_text, .int t_length, .ref a_t_passing, .int t_at, .int t_fault, .int t_open, .int t_asked, .int t_byGun, .int t_prizeMost, .ref a_t_order, .ref a_t_times, .int t_listed])), (a_t_now, .inl (cI, 1562, .inl t_now)), (a_t_text, .inl (cB, 200, .inl t_text))] sz) := by
  refine Met.ofW (cc := cX11_tests) (maxL := 3) (ret := (some .boolean)) (by decide) rfl ?_
  intro p e s m args below meth c s₁ B hml hv
  obtain ⟨rfl, hsz, hP, hK, hN, hZ, hD0⟩ := hv
  have hx := B.exec
  have hb := B.bytes
  have hr := B.returns
  have hts := atoms_spec (ws := wsX11_tests) B.pre
  have hown : s.vm.findClass RX11 = some m.cls := findClass_of_methodNamed B.named
  have hlocks := B.notSynchronized
  subst hsz
  have hD := hD0.self (sz := s.heap.size)
  generalize hAe : va_A [(a_t, .inr (11, [.int t_thrown, .ref a_t_now, .ref a_t_kept, .int t_isKept, .ref a_t_text, .int t_length, .ref a_t_passing, .int t_at, .int t_fault, .int t_open, .int t_asked, .int t_byGun, .int t_prizeMost, .ref a_t_order, .ref a_t_times, .int t_listed])), (a_t_now, .inl (cI, 1562, .inl t_now)), (a_t_text, .inl (cB, 200, .inl t_text))] s.heap.size = A at hD hZ ⊢
  have hA : ∀ q : Nat, s.heap.size ≤ q → A q := fun q h => by rw [← hAe]; exact Or.inr h
  have hS : va_S A s.heap s.heap [] := va_S.rf
  have hl := lv_entry ([.ref a_t]) (n := 3) (Nat.le_of_ble_eq_true rfl)
  rw [lg_entry_eq]
  generalize (lg_sl ([.ref a_t]) ++ List.replicate (3 - (lg_sl ([.ref a_t])).length) Slot.unset).toArray = ls at hl ⊢
  have hl : lv_has ls 3 [(0, .ref a_t)] := hl
  obtain ⟨T, hT⟩ : ∃ T, T = fX11_testsD N 5 := ⟨_, rfl⟩; have h : fX11_tests_ T N t_asked t_at t_fault t_length t_open t_now t_text = some (b0, t_at', t_fault', t_open') := by rw [hT]; exact h
  unfold fX11_tests_ at h
  refine lv_aload_n hx hb dX11_tests_0 rfl (lv_at hl 0 rfl) ?_
  obtain ⟨⟨b1, t_at_r2, t_fault_r3, t_open_r4⟩, e5, h⟩ := zz_b h
  dsimp only at h
  refine zVi (As := []) (rest := []) (C := RX11) (wr := []) [0, 1, 2] [] 0 ⟨hx, hb, hml, hown, hts⟩ (mX11_part_5 l D cB cI cZ a_t a_t_now a_t_kept a_t_text a_t_passing a_t_order a_t_times t_thrown t_isKept t_length t_at t_fault t_open t_asked t_byGun t_prizeMost t_listed t_now t_text s.heap.size N T hT b1 t_at_r2 t_fault_r3 t_open_r4 e5) (cwV 0 hts gX11_tests_X11_part rfl rfl rfl (by decide +kernel) ⟨Nat.le_of_ble_eq_true rfl, Nat.le_of_ble_eq_true rfl⟩) hK hN hZ hP hD hS hA rfl rfl rfl rfl rfl rfl rfl rfl hl.1 rfl (lv_room (Nat.le_of_ble_eq_true rfl)) dX11_tests_1 ⟨Nat.le_of_ble_eq_true rfl, Nat.le_of_ble_eq_true rfl⟩ (fun H locs hP hD hS => ?_)
  have hP : va_P D vwCl [(a_t, .inr (11, [.int t_thrown, .ref a_t_now, .ref a_t_kept, .int t_isKept, .ref a_t_text, .int t_length, .ref a_t_passing, .int t_at_r2, .int t_fault_r3, .int t_open_r4, .int t_asked, .int t_byGun, .int t_prizeMost, .ref a_t_order, .ref a_t_times, .int t_listed])), (a_t_now, .inl (cI, 1562, .inl t_now)), (a_t_text, .inl (cB, 200, .inl t_text))] H := hP
  have hD : va_D A [(a_t, .inr (11, [.int t_thrown, .ref a_t_now, .ref a_t_kept, .int t_isKept, .ref a_t_text, .int t_length, .ref a_t_passing, .int t_at_r2, .int t_fault_r3, .int t_open_r4, .int t_asked, .int t_byGun, .int t_prizeMost, .ref a_t_order, .ref a_t_times, .int t_listed])), (a_t_now, .inl (cI, 1562, .inl t_now)), (a_t_text, .inl (cB, 200, .inl t_text))] := hD
  refine lv_istore_n (lv' := [(1, .int (zb b1)), (0, .ref a_t)]) hx hb dX11_tests_4 rfl hl (by decide) rfl (fun ls hl => ?_)
  have X5_53 : ∀ (v1_5 : Bool) (t_at_l5 : Int32) (t_fault_l5 : Int32) (t_open_l5 : Int32) (H : Heap) (locs : List Loc) (ls : Array Slot), some (v1_5, t_at_l5, t_fault_l5, t_open_l5) = some (b0, t_at', t_fault', t_open') → va_P D vwCl [(a_t, .inr (11, [.int t_thrown, .ref a_t_now, .ref a_t_kept, .int t_isKept, .ref a_t_text, .int t_length, .ref a_t_passing, .int t_at_l5, .int t_fault_l5, .int t_open_l5, .int t_asked, .int t_byGun, .int t_prizeMost, .ref a_t_order, .ref a_t_times, .int t_listed])), (a_t_now, .inl (cI, 1562, .inl t_now)), (a_t_text, .inl (cB, 200, .inl t_text))] H → va_D A [(a_t, .inr (11, [.int t_thrown, .ref a_t_now, .ref a_t_kept, .int t_isKept, .ref a_t_text, .int t_length, .ref a_t_passing, .int t_at_l5, .int t_fault_l5, .int t_open_l5, .int t_asked, .int t_byGun, .int t_prizeMost, .ref a_t_order, .ref a_t_times, .int t_listed])), (a_t_now, .inl (cI, 1562, .inl t_now)), (a_t_text, .inl (cB, 200, .inl t_text))] → va_S A s.heap H locs → lv_has ls 3 [(1, .int (zb v1_5)), (0, .ref a_t)] → W p l e (headSpec wsX11_tests ({ frames := 19, cells := 0, slots := 0, locals := 434 } : Room)).room s m #[Value.ref a_t] below meth c H locs 0 0 (MQ below (zQi (zb b0) D (zT cB cI cZ) [(a_t, .inr (11, [.int t_thrown, .ref a_t_now, .ref a_t_kept, .int t_isKept, .ref a_t_text, .int t_length, .ref a_t_passing, .int t_at', .int t_fault', .int t_open', .int t_asked, .int t_byGun, .int t_prizeMost, .ref a_t_order, .ref a_t_times, .int t_listed])), (a_t_now, .inl (cI, 1562, .inl t_now)), (a_t_text, .inl (cB, 200, .inl t_text))] A) #[Value.ref a_t] s 0 0 A) (F0 m 53 ls []) := by
    intro v1_5 t_at_l5 t_fault_l5 t_open_l5 H locs ls h hP hD hS hl
    refine lv_iload_n hx hb dX11_tests_53 rfl (lv_at hl 0 rfl) ?_
    obtain ⟨j0_, g_⟩ := Prod.mk.inj (Option.some.inj h)
    obtain ⟨j1_, g_⟩ := Prod.mk.inj g_
    obtain ⟨j2_, g_⟩ := Prod.mk.inj g_
    have j3_ := g_
    subst j0_
    subst j1_
    subst j2_
    subst j3_
    exact W.zret (v := (zb v1_5)) hx hb hr zz_n (fun t ht hW => ⟨⟨_, (), rfl, rfl, zPost.of hP hD hK ht hW [0, 1, 2] rfl rfl rfl⟩, hS.F ht⟩) hS.2.2 dX11_tests_54
  have L5 : ∀ (n : Nat) (v1_5 : Bool) (t_at_l5 : Int32) (t_fault_l5 : Int32) (t_open_l5 : Int32) (H : Heap) (locs : List Loc) (ls : Array Slot), fX11_tests_L5 N T t_length t_asked t_now t_text (fun (v1_5 : Bool) (t_at_l5 : Int32) (t_fault_l5 : Int32) (t_open_l5 : Int32) => some (v1_5, t_at_l5, t_fault_l5, t_open_l5)) n v1_5 t_at_l5 t_fault_l5 t_open_l5 = some (b0, t_at', t_fault', t_open') → va_P D vwCl [(a_t, .inr (11, [.int t_thrown, .ref a_t_now, .ref a_t_kept, .int t_isKept, .ref a_t_text, .int t_length, .ref a_t_passing, .int t_at_l5, .int t_fault_l5, .int t_open_l5, .int t_asked, .int t_byGun, .int t_prizeMost, .ref a_t_order, .ref a_t_times, .int t_listed])), (a_t_now, .inl (cI, 1562, .inl t_now)), (a_t_text, .inl (cB, 200, .inl t_text))] H → va_D A [(a_t, .inr (11, [.int t_thrown, .ref a_t_now, .ref a_t_kept, .int t_isKept, .ref a_t_text, .int t_length, .ref a_t_passing, .int t_at_l5, .int t_fault_l5, .int t_open_l5, .int t_asked, .int t_byGun, .int t_prizeMost, .ref a_t_order, .ref a_t_times, .int t_listed])), (a_t_now, .inl (cI, 1562, .inl t_now)), (a_t_text, .inl (cB, 200, .inl t_text))] → va_S A s.heap H locs → lv_has ls 3 [(1, .int (zb v1_5)), (0, .ref a_t)] → W p l e (headSpec wsX11_tests ({ frames := 19, cells := 0, slots := 0, locals := 434 } : Room)).room s m #[Value.ref a_t] below meth c H locs 0 0 (MQ below (zQi (zb b0) D (zT cB cI cZ) [(a_t, .inr (11, [.int t_thrown, .ref a_t_now, .ref a_t_kept, .int t_isKept, .ref a_t_text, .int t_length, .ref a_t_passing, .int t_at', .int t_fault', .int t_open', .int t_asked, .int t_byGun, .int t_prizeMost, .ref a_t_order, .ref a_t_times, .int t_listed])), (a_t_now, .inl (cI, 1562, .inl t_now)), (a_t_text, .inl (cB, 200, .inl t_text))] A) #[Value.ref a_t] s 0 0 A) (F0 m 5 ls []) := by
    intro n
    induction n with
    | zero => intro _ _ _ _ H locs ls h hP hD hS hl; cases h
    | succ n5 ih5 =>
      intro v1_5 t_at_l5 t_fault_l5 t_open_l5 H locs ls h hP hD hS hl
      rw [fX11_tests_L5.eq_2] at h
      refine lv_aload_n hx hb dX11_tests_5 rfl (lv_at hl 1 rfl) ?_
      obtain ⟨b6, e7, h⟩ := zz_b h
      refine zVi (As := []) (rest := []) (C := RX11) (wr := [(a_t_now, .inl (cI, 1562, .inl t_now)), (a_t_text, .inl (cB, 200, .inl t_text))]) [0] [1, 2] 0 ⟨hx, hb, hml, hown, hts⟩ (mX11_isFine l D cB cI cZ a_t a_t_now a_t_kept a_t_text a_t_passing a_t_order a_t_times t_thrown t_isKept t_length t_at_l5 t_fault_l5 t_open_l5 t_asked t_byGun t_prizeMost t_listed H.size b6 e7) (cwV 0 hts gX11_tests_X11_isFine rfl rfl rfl (by decide +kernel) ⟨Nat.le_of_ble_eq_true rfl, Nat.le_of_ble_eq_true rfl⟩) hK hN hZ hP hD hS hA rfl rfl rfl rfl rfl rfl rfl rfl hl.1 rfl (lv_room (Nat.le_of_ble_eq_true rfl)) dX11_tests_6 ⟨Nat.le_of_ble_eq_true rfl, Nat.le_of_ble_eq_true rfl⟩ (fun H locs hP hD hS => ?_)
      have hP : va_P D vwCl [(a_t_now, .inl (cI, 1562, .inl t_now)), (a_t_text, .inl (cB, 200, .inl t_text)), (a_t, .inr (11, [.int t_thrown, .ref a_t_now, .ref a_t_kept, .int t_isKept, .ref a_t_text, .int t_length, .ref a_t_passing, .int t_at_l5, .int t_fault_l5, .int t_open_l5, .int t_asked, .int t_byGun, .int t_prizeMost, .ref a_t_order, .ref a_t_times, .int t_listed]))] H := hP
      have hD : va_D A [(a_t_now, .inl (cI, 1562, .inl t_now)), (a_t_text, .inl (cB, 200, .inl t_text)), (a_t, .inr (11, [.int t_thrown, .ref a_t_now, .ref a_t_kept, .int t_isKept, .ref a_t_text, .int t_length, .ref a_t_passing, .int t_at_l5, .int t_fault_l5, .int t_open_l5, .int t_asked, .int t_byGun, .int t_prizeMost, .ref a_t_order, .ref a_t_times, .int t_listed]))] := hD
      refine lv_if_eq (tgt := 53) hx hb dX11_tests_9 (by decide) (fun c8 => ?_) (fun c8 => ?_)
      · have h := zz_t h c8
        exact X5_53 v1_5 t_at_l5 t_fault_l5 t_open_l5 _ _ _ h (hP.sub [2, 0, 1] rfl) (hD.sub [2, 0, 1] rfl rfl) hS (lv_sub hl [0, 1] rfl)
      · have h := zz_f h c8
        refine lv_aload_n hx hb dX11_tests_12 rfl (lv_at hl 1 rfl) ?_
        obtain ⟨⟨r9, t_at_r10⟩, e11, h⟩ := zz_b h
        dsimp only at h
        refine zVi (As := []) (rest := []) (C := RX11) (wr := [(a_t_now, .inl (cI, 1562, .inl t_now))]) [2, 1] [0] 0 ⟨hx, hb, hml, hown, hts⟩ (mX11_look l D cB cI cZ a_t a_t_now a_t_kept a_t_text a_t_passing a_t_order a_t_times t_thrown t_isKept t_length t_at_l5 t_fault_l5 t_open_l5 t_asked t_byGun t_prizeMost t_listed t_text H.size N r9 t_at_r10 e11) (cwV 0 hts gX11_tests_X11_look rfl rfl rfl (by decide +kernel) ⟨Nat.le_of_ble_eq_true rfl, Nat.le_of_ble_eq_true rfl⟩) hK hN hZ hP hD hS hA rfl rfl rfl rfl rfl rfl rfl rfl hl.1 rfl (lv_room (Nat.le_of_ble_eq_true rfl)) dX11_tests_13 ⟨Nat.le_of_ble_eq_true rfl, Nat.le_of_ble_eq_true rfl⟩ (fun H locs hP hD hS => ?_)
        have hP : va_P D vwCl [(a_t_now, .inl (cI, 1562, .inl t_now)), (a_t, .inr (11, [.int t_thrown, .ref a_t_now, .ref a_t_kept, .int t_isKept, .ref a_t_text, .int t_length, .ref a_t_passing, .int t_at_r10, .int t_fault_l5, .int t_open_l5, .int t_asked, .int t_byGun, .int t_prizeMost, .ref a_t_order, .ref a_t_times, .int t_listed])), (a_t_text, .inl (cB, 200, .inl t_text))] H := hP
        have hD : va_D A [(a_t_now, .inl (cI, 1562, .inl t_now)), (a_t, .inr (11, [.int t_thrown, .ref a_t_now, .ref a_t_kept, .int t_isKept, .ref a_t_text, .int t_length, .ref a_t_passing, .int t_at_r10, .int t_fault_l5, .int t_open_l5, .int t_asked, .int t_byGun, .int t_prizeMost, .ref a_t_order, .ref a_t_times, .int t_listed])), (a_t_text, .inl (cB, 200, .inl t_text))] := hD
        refine lv_bipush (v := (nI 124)) hx hb dX11_tests_16 rfl ?_
        refine lv_icmp_ne (tgt := 53) hx hb dX11_tests_18 (by decide) (fun c12 => ?_) (fun c12 => ?_)
        · have h := zz_f h c12
          exact X5_53 v1_5 t_at_r10 t_fault_l5 t_open_l5 _ _ _ h (hP.sub [1, 0, 2] rfl) (hD.sub [1, 0, 2] rfl rfl) hS (lv_sub hl [0, 1] rfl)
        · have h := zz_t h c12
          refine lv_aload_n hx hb dX11_tests_21 rfl (lv_at hl 1 rfl) ?_
          refine lv_dup hx hb dX11_tests_22 rfl ?_
          refine va_get (D := D) (ci := 11) (C := RX11) (T := TX11) (N := 16) hx hb hts qX11_tests_X11 hown hK hP 1 rfl rfl 7 (by decide) (hts _ kX11_tests_0) (fun _ h9 => h9) rfl dX11_tests_23 ?_
          refine lv_iconst (v := (nI 1)) hx hb dX11_tests_26 rfl ?_
          refine lv_iadd hx hb dX11_tests_27 ?_
          refine va_put (D := D) (ci := 11) (ty := .int) (C := RX11) (T := TX11) (N := 16) hx hb hts qX11_tests_X11 tyX11 tyX11_ok nmX11 hown hK hP hD hS 1 rfl rfl 7 (by decide) (hts _ kX11_tests_0) (fun _ h9 => h9) rfl (by decide +kernel) rfl (by first | rfl | exact zz_fit) (Nat.le_of_ble_eq_true rfl) dX11_tests_28 (fun H locs hP hD hS => ?_)
          have hP : va_P D vwCl [(a_t_now, .inl (cI, 1562, .inl t_now)), (a_t, .inr (11, [.int t_thrown, .ref a_t_now, .ref a_t_kept, .int t_isKept, .ref a_t_text, .int t_length, .ref a_t_passing, .int (t_at_r10 + (nI 1)), .int t_fault_l5, .int t_open_l5, .int t_asked, .int t_byGun, .int t_prizeMost, .ref a_t_order, .ref a_t_times, .int t_listed])), (a_t_text, .inl (cB, 200, .inl t_text))] H := hP
          have hD : va_D A [(a_t_now, .inl (cI, 1562, .inl t_now)), (a_t, .inr (11, [.int t_thrown, .ref a_t_now, .ref a_t_kept, .int t_isKept, .ref a_t_text, .int t_length, .ref a_t_passing, .int (t_at_r10 + (nI 1)), .int t_fault_l5, .int t_open_l5, .int t_asked, .int t_byGun, .int t_prizeMost, .ref a_t_order, .ref a_t_times, .int t_listed])), (a_t_text, .inl (cB, 200, .inl t_text))] := hD
          refine lv_aload_n hx hb dX11_tests_31 rfl (lv_at hl 1 rfl) ?_
          obtain ⟨⟨b13, t_at_r14, t_fault_r15, t_open_r16⟩, e17, h⟩ := zz_b h
          dsimp only at h
          refine zVi (As := []) (rest := []) (C := RX11) (wr := []) [1, 0, 2] [] 0 ⟨hx, hb, hml, hown, hts⟩ (mX11_part_5 l D cB cI cZ a_t a_t_now a_t_kept a_t_text a_t_passing a_t_order a_t_times t_thrown t_isKept t_length (t_at_r10 + (nI 1)) t_fault_l5 t_open_l5 t_asked t_byGun t_prizeMost t_listed t_now t_text H.size N T hT b13 t_at_r14 t_fault_r15 t_open_r16 e17) (cwV 0 hts gX11_tests_X11_part rfl rfl rfl (by decide +kernel) ⟨Nat.le_of_ble_eq_true rfl, Nat.le_of_ble_eq_true rfl⟩) hK hN hZ hP hD hS hA rfl rfl rfl rfl rfl rfl rfl rfl hl.1 rfl (lv_room (Nat.le_of_ble_eq_true rfl)) dX11_tests_32 ⟨Nat.le_of_ble_eq_true rfl, Nat.le_of_ble_eq_true rfl⟩ (fun H locs hP hD hS => ?_)
          have hP : va_P D vwCl [(a_t, .inr (11, [.int t_thrown, .ref a_t_now, .ref a_t_kept, .int t_isKept, .ref a_t_text, .int t_length, .ref a_t_passing, .int t_at_r14, .int t_fault_r15, .int t_open_r16, .int t_asked, .int t_byGun, .int t_prizeMost, .ref a_t_order, .ref a_t_times, .int t_listed])), (a_t_now, .inl (cI, 1562, .inl t_now)), (a_t_text, .inl (cB, 200, .inl t_text))] H := hP
          have hD : va_D A [(a_t, .inr (11, [.int t_thrown, .ref a_t_now, .ref a_t_kept, .int t_isKept, .ref a_t_text, .int t_length, .ref a_t_passing, .int t_at_r14, .int t_fault_r15, .int t_open_r16, .int t_asked, .int t_byGun, .int t_prizeMost, .ref a_t_order, .ref a_t_times, .int t_listed])), (a_t_now, .inl (cI, 1562, .inl t_now)), (a_t_text, .inl (cB, 200, .inl t_text))] := hD
          refine lv_istore_n (lv' := [(2, .int (zb b13)), (1, .int (zb v1_5)), (0, .ref a_t)]) hx hb dX11_tests_35 rfl hl (by decide) rfl (fun ls hl => ?_)
          refine lv_iload_n hx hb dX11_tests_36 rfl (lv_at hl 1 rfl) ?_
          refine lv_if_ne (tgt := 44) hx hb dX11_tests_37 (by decide) (fun c18 => ?_) (fun c18 => ?_)
          · have h := zz_f h c18
            refine lv_iconst (v := (nI 1)) hx hb dX11_tests_44 rfl ?_
            refine lv_goto (tgt := 49) hx hb dX11_tests_45 (by decide) ?_
            refine lv_istore_n (lv' := [(1, .int (nI 1)), (2, .int (zb b13)), (0, .ref a_t)]) hx hb dX11_tests_49 rfl hl (by decide) rfl (fun ls hl => ?_)
            refine lv_goto (tgt := 5) hx hb dX11_tests_50 (by decide) ?_
            exact ih5 true t_at_r14 t_fault_r15 t_open_r16 _ _ _ h (hP.sub [0, 1, 2] rfl) (hD.sub [0, 1, 2] rfl rfl) hS (lv_sub hl [0, 2] rfl)
          · have h := zz_t h c18
            refine lv_iload_n hx hb dX11_tests_40 rfl (lv_at hl 0 rfl) ?_
            refine lv_if_eq (tgt := 48) hx hb dX11_tests_41 (by decide) (fun c19 => ?_) (fun c19 => ?_)
            · have h := zz_t h c19
              refine lv_iconst (v := (nI 0)) hx hb dX11_tests_48 rfl ?_
              refine lv_istore_n (lv' := [(1, .int (nI 0)), (2, .int (zb b13)), (0, .ref a_t)]) hx hb dX11_tests_49 rfl hl (by decide) rfl (fun ls hl => ?_)
              refine lv_goto (tgt := 5) hx hb dX11_tests_50 (by decide) ?_
              exact ih5 false t_at_r14 t_fault_r15 t_open_r16 _ _ _ h (hP.sub [0, 1, 2] rfl) (hD.sub [0, 1, 2] rfl rfl) hS (lv_sub hl [0, 2] rfl)
            · have h := zz_f h c19
              refine lv_iconst (v := (nI 1)) hx hb dX11_tests_44 rfl ?_
              refine lv_goto (tgt := 49) hx hb dX11_tests_45 (by decide) ?_
              refine lv_istore_n (lv' := [(1, .int (nI 1)), (2, .int (zb b13)), (0, .ref a_t)]) hx hb dX11_tests_49 rfl hl (by decide) rfl (fun ls hl => ?_)
              refine lv_goto (tgt := 5) hx hb dX11_tests_50 (by decide) ?_
              exact ih5 true t_at_r14 t_fault_r15 t_open_r16 _ _ _ h (hP.sub [0, 1, 2] rfl) (hD.sub [0, 1, 2] rfl rfl) hS (lv_sub hl [0, 2] rfl)
  exact L5 N b1 t_at_r2 t_fault_r3 t_open_r4 _ _ _ h hP hD hS hl
set_option maxHeartbeats 4000000 in
set_option maxRecDepth 100000 in
theorem mX11_unit_6 (l : Launch) (D : va_G) (cB cI cZ : ClassId) (a_t : Nat) (a_t_now : Nat) (a_t_kept : Nat) (a_t_text : Nat) (a_t_passing : Nat) (a_t_order : Nat) (a_t_times : Nat) (t_thrown : Int32) (t_isKept : Int32) (t_length : Int32) (t_at : Int32) (t_fault : Int32) (t_open : Int32) (t_asked : Int32) (t_byGun : Int32) (t_prizeMost : Int32) (t_listed : Int32) (t_now : Nat → Int32) (t_text : Nat → Int32) (sz : Nat) (N : Nat) (T : Int32 → Int32 → Int32 → Int32 → Int32 → (Nat → Int32) → (Nat → Int32) → Option (Bool × Int32 × Int32 × Int32)) (hT : T = fX11_testsD N 6) (b0 : Bool) (t_at' : Int32) (t_fault' : Int32) (t_open' : Int32) (h : fX11_unit T N t_asked t_at t_fault t_length t_open t_now t_text = some (b0, t_at', t_fault', t_open')) : Met l yX11_unit wsX11_unit ({ frames := 20, cells := 0, slots := 0, locals := 456 } : Room) (va_Pc [.ref a_t] (zPre D (zT cB cI cZ) [(a_t, .inr (11, [.int t_thrown, .ref a_t_now, .ref a_t_kept, .int t_isKept, .ref a_t_text, .int t_length, .ref a_t_passing, .int t_at, .int t_fault, .int t_open, .int t_asked, .int t_byGun, .int t_prizeMost, .ref a_t_order, .ref a_t_times, .int t_listed])), (a_t_now, .inl (cI, 1562, .inl t_now)), (a_t_text, .inl (cB, 200, .inl t_text))] sz)) (zQi (zb b0) D (zT cB cI cZ) [(a_t, .inr (11, [.int t_thrown, .ref a_t_now, .ref a_t_kept, .int t_isKept, .ref a_t_text, .int t_length, .ref a_t_passing, .int t_at', .int t_fault', .int t_open', .int t_asked, .int t_byGun, .int t_prizeMost, .ref a_t_order, .ref a_t_times, .int t_listed])), (a_t_now, .inl (cI, 1562, .inl t_now)), (a_t_text, .inl (cB, 200, .inl t_text))] (va_A [(a_t, .inr (11, [.int t_thrown, .ref a_t_now, .ref a_t_kept, .int t_isKept, .ref a_t_text, .int t_length, .ref a_t_passing, .int t_at, .int t_fault, .int t_open, .int t_asked, .int t_byGun, .int t_prizeMost, .ref a_t_order, .ref a_t_times, .int t_listed])), (a_t_now, .inl (cI, 1562, .inl t_now)), (a_t_text, .inl (cB, 200, .inl t_text))] sz)) 0 0 (va_A [(a_t, .inr (11, [.int t_thrown, .ref a_t_now, .ref a_t_kept, .int t_isKept, .ref a_t_text, .int t_length, .ref a_t_passing, .int t_at, .int t_fault, .int t_open, .int t_asked, .int t_byGun, .int t_prizeMost, .ref a_t_order, .ref a_t_times, .int t_listed])), (a_t_now, .inl (cI, 1562, .inl t_now)), (a_t_text, .inl (cB, 200, .inl t_text))] sz) := by
  refine Met.ofW (cc := cX11_unit) (maxL := 6) (ret := (some .boolean)) (by decide) rfl ?_
  intro p e s m args below meth c s₁ B hml hv
  obtain ⟨rfl, hsz, hP, hK, hN, hZ, hD0⟩ := hv
  have hx := B.exec
  have hb := B.bytes
  have hr := B.returns
  have hts := atoms_spec (ws := wsX11_unit) B.pre
  have hown : s.vm.findClass RX11 = some m.cls := findClass_of_methodNamed B.named
  have hlocks := B.notSynchronized
  subst hsz
  have hD := hD0.self (sz := s.heap.size)
  generalize hAe : va_A [(a_t, .inr (11, [.int t_thrown, .ref a_t_now, .ref a_t_kept, .int t_isKept, .ref a_t_text, .int t_length, .ref a_t_passing, .int t_at, .int t_fault, .int t_open, .int t_asked, .int t_byGun, .int t_prizeMost, .ref a_t_order, .ref a_t_times, .int t_listed])), (a_t_now, .inl (cI, 1562, .inl t_now)), (a_t_text, .inl (cB, 200, .inl t_text))] s.heap.size = A at hD hZ ⊢
  have hA : ∀ q : Nat, s.heap.size ≤ q → A q := fun q h => by rw [← hAe]; exact Or.inr h
  have hS : va_S A s.heap s.heap [] := va_S.rf
  have hl := lv_entry ([.ref a_t]) (n := 6) (Nat.le_of_ble_eq_true rfl)
  rw [lg_entry_eq]
  generalize (lg_sl ([.ref a_t]) ++ List.replicate (6 - (lg_sl ([.ref a_t])).length) Slot.unset).toArray = ls at hl ⊢
  have hl : lv_has ls 6 [(0, .ref a_t)] := hl
  unfold fX11_unit at h
  refine lv_aload_n hx hb dX11_unit_0 rfl (lv_at hl 0 rfl) ?_
  obtain ⟨⟨r1, t_at_r2⟩, e3, h⟩ := zz_b h
  dsimp only at h
  refine zVi (As := []) (rest := []) (C := RX11) (wr := [(a_t_now, .inl (cI, 1562, .inl t_now))]) [0, 2] [1] 0 ⟨hx, hb, hml, hown, hts⟩ (mX11_look l D cB cI cZ a_t a_t_now a_t_kept a_t_text a_t_passing a_t_order a_t_times t_thrown t_isKept t_length t_at t_fault t_open t_asked t_byGun t_prizeMost t_listed t_text s.heap.size N r1 t_at_r2 e3) (cwV 0 hts gX11_unit_X11_look rfl rfl rfl (by decide +kernel) ⟨Nat.le_of_ble_eq_true rfl, Nat.le_of_ble_eq_true rfl⟩) hK hN hZ hP hD hS hA rfl rfl rfl rfl rfl rfl rfl rfl hl.1 rfl (lv_room (Nat.le_of_ble_eq_true rfl)) dX11_unit_1 ⟨Nat.le_of_ble_eq_true rfl, Nat.le_of_ble_eq_true rfl⟩ (fun H locs hP hD hS => ?_)
  have hP : va_P D vwCl [(a_t_now, .inl (cI, 1562, .inl t_now)), (a_t, .inr (11, [.int t_thrown, .ref a_t_now, .ref a_t_kept, .int t_isKept, .ref a_t_text, .int t_length, .ref a_t_passing, .int t_at_r2, .int t_fault, .int t_open, .int t_asked, .int t_byGun, .int t_prizeMost, .ref a_t_order, .ref a_t_times, .int t_listed])), (a_t_text, .inl (cB, 200, .inl t_text))] H := hP
  have hD : va_D A [(a_t_now, .inl (cI, 1562, .inl t_now)), (a_t, .inr (11, [.int t_thrown, .ref a_t_now, .ref a_t_kept, .int t_isKept, .ref a_t_text, .int t_length, .ref a_t_passing, .int t_at_r2, .int t_fault, .int t_open, .int t_asked, .int t_byGun, .int t_prizeMost, .ref a_t_order, .ref a_t_times, .int t_listed])), (a_t_text, .inl (cB, 200, .inl t_text))] := hD
  refine lv_istore_n (lv' := [(1, .int r1), (0, .ref a_t)]) hx hb dX11_unit_4 rfl hl (by decide) rfl (fun ls hl => ?_)
  refine lv_iload_n hx hb dX11_unit_5 rfl (lv_at hl 0 rfl) ?_
  refine lv_bipush (v := (nI 40)) hx hb dX11_unit_6 rfl ?_
  refine lv_icmp_ne (tgt := 69) hx hb dX11_unit_8 (by decide) (fun c4 => ?_) (fun c4 => ?_)
  · have h := zz_f h c4
    refine lv_iload_n hx hb dX11_unit_69 rfl (lv_at hl 0 rfl) ?_
    refine lv_bipush (v := (nI 115)) hx hb dX11_unit_70 rfl ?_
    have J120 : ∀ (s0_j120 : Int32) (H : Heap) (locs : List Loc) (ls : Array Slot), fX11_unit_J120 N t_length t_fault t_open t_asked t_now t_text t_at_r2 s0_j120 = some (b0, t_at', t_fault', t_open') → va_P D vwCl [(a_t_now, .inl (cI, 1562, .inl t_now)), (a_t, .inr (11, [.int t_thrown, .ref a_t_now, .ref a_t_kept, .int t_isKept, .ref a_t_text, .int t_length, .ref a_t_passing, .int t_at_r2, .int t_fault, .int t_open, .int t_asked, .int t_byGun, .int t_prizeMost, .ref a_t_order, .ref a_t_times, .int t_listed])), (a_t_text, .inl (cB, 200, .inl t_text))] H → va_D A [(a_t_now, .inl (cI, 1562, .inl t_now)), (a_t, .inr (11, [.int t_thrown, .ref a_t_now, .ref a_t_kept, .int t_isKept, .ref a_t_text, .int t_length, .ref a_t_passing, .int t_at_r2, .int t_fault, .int t_open, .int t_asked, .int t_byGun, .int t_prizeMost, .ref a_t_order, .ref a_t_times, .int t_listed])), (a_t_text, .inl (cB, 200, .inl t_text))] → va_S A s.heap H locs → lv_has ls 6 [(1, .int r1), (0, .ref a_t)] → W p l e (headSpec wsX11_unit ({ frames := 20, cells := 0, slots := 0, locals := 456 } : Room)).room s m #[Value.ref a_t] below meth c H locs 0 0 (MQ below (zQi (zb b0) D (zT cB cI cZ) [(a_t, .inr (11, [.int t_thrown, .ref a_t_now, .ref a_t_kept, .int t_isKept, .ref a_t_text, .int t_length, .ref a_t_passing, .int t_at', .int t_fault', .int t_open', .int t_asked, .int t_byGun, .int t_prizeMost, .ref a_t_order, .ref a_t_times, .int t_listed])), (a_t_now, .inl (cI, 1562, .inl t_now)), (a_t_text, .inl (cB, 200, .inl t_text))] A) #[Value.ref a_t] s 0 0 A) (F0 m 120 ls [.int s0_j120]) := by
      intro s0_j120 H locs ls h hP hD hS hl
      unfold fX11_unit_J120 at h
      refine lv_istore_n (lv' := [(2, .int s0_j120), (1, .int r1), (0, .ref a_t)]) hx hb dX11_unit_120 rfl hl (by decide) rfl (fun ls hl => ?_)
      refine lv_iload_n hx hb dX11_unit_121 rfl (lv_at hl 0 rfl) ?_
      refine lv_iconst (v := (-1 : Int32)) hx hb dX11_unit_122 rfl ?_
      refine lv_icmp_ne (tgt := 132) hx hb dX11_unit_123 (by decide) (fun c5 => ?_) (fun c5 => ?_)
      · have h := zz_f h c5
        refine lv_aload_n hx hb dX11_unit_132 rfl (lv_at hl 2 rfl) ?_
        refine lv_dup hx hb dX11_unit_133 rfl ?_
        refine va_get (D := D) (ci := 11) (C := RX11) (T := TX11) (N := 16) hx hb hts qX11_unit_X11 hown hK hP 1 rfl rfl 7 (by decide) (hts _ kX11_unit_0) (fun _ h9 => h9) rfl dX11_unit_134 ?_
        refine lv_iconst (v := (nI 1)) hx hb dX11_unit_137 rfl ?_
        refine lv_iadd hx hb dX11_unit_138 ?_
        refine va_put (D := D) (ci := 11) (ty := .int) (C := RX11) (T := TX11) (N := 16) hx hb hts qX11_unit_X11 tyX11 tyX11_ok nmX11 hown hK hP hD hS 1 rfl rfl 7 (by decide) (hts _ kX11_unit_0) (fun _ h9 => h9) rfl (by decide +kernel) rfl (by first | rfl | exact zz_fit) (Nat.le_of_ble_eq_true rfl) dX11_unit_139 (fun H locs hP hD hS => ?_)
        have hP : va_P D vwCl [(a_t_now, .inl (cI, 1562, .inl t_now)), (a_t, .inr (11, [.int t_thrown, .ref a_t_now, .ref a_t_kept, .int t_isKept, .ref a_t_text, .int t_length, .ref a_t_passing, .int (t_at_r2 + (nI 1)), .int t_fault, .int t_open, .int t_asked, .int t_byGun, .int t_prizeMost, .ref a_t_order, .ref a_t_times, .int t_listed])), (a_t_text, .inl (cB, 200, .inl t_text))] H := hP
        have hD : va_D A [(a_t_now, .inl (cI, 1562, .inl t_now)), (a_t, .inr (11, [.int t_thrown, .ref a_t_now, .ref a_t_kept, .int t_isKept, .ref a_t_text, .int t_length, .ref a_t_passing, .int (t_at_r2 + (nI 1)), .int t_fault, .int t_open, .int t_asked, .int t_byGun, .int t_prizeMost, .ref a_t_order, .ref a_t_times, .int t_listed])), (a_t_text, .inl (cB, 200, .inl t_text))] := hD
        refine lv_aload_n hx hb dX11_unit_142 rfl (lv_at hl 2 rfl) ?_
        obtain ⟨⟨r6, t_at_r7⟩, e8, h⟩ := zz_b h
        dsimp only at h
        refine zVi (As := []) (rest := []) (C := RX11) (wr := [(a_t_now, .inl (cI, 1562, .inl t_now))]) [1, 2] [0] 0 ⟨hx, hb, hml, hown, hts⟩ (mX11_look l D cB cI cZ a_t a_t_now a_t_kept a_t_text a_t_passing a_t_order a_t_times t_thrown t_isKept t_length (t_at_r2 + (nI 1)) t_fault t_open t_asked t_byGun t_prizeMost t_listed t_text H.size N r6 t_at_r7 e8) (cwV 0 hts gX11_unit_X11_look rfl rfl rfl (by decide +kernel) ⟨Nat.le_of_ble_eq_true rfl, Nat.le_of_ble_eq_true rfl⟩) hK hN hZ hP hD hS hA rfl rfl rfl rfl rfl rfl rfl rfl hl.1 rfl (lv_room (Nat.le_of_ble_eq_true rfl)) dX11_unit_143 ⟨Nat.le_of_ble_eq_true rfl, Nat.le_of_ble_eq_true rfl⟩ (fun H locs hP hD hS => ?_)
        have hP : va_P D vwCl [(a_t_now, .inl (cI, 1562, .inl t_now)), (a_t, .inr (11, [.int t_thrown, .ref a_t_now, .ref a_t_kept, .int t_isKept, .ref a_t_text, .int t_length, .ref a_t_passing, .int t_at_r7, .int t_fault, .int t_open, .int t_asked, .int t_byGun, .int t_prizeMost, .ref a_t_order, .ref a_t_times, .int t_listed])), (a_t_text, .inl (cB, 200, .inl t_text))] H := hP
        have hD : va_D A [(a_t_now, .inl (cI, 1562, .inl t_now)), (a_t, .inr (11, [.int t_thrown, .ref a_t_now, .ref a_t_kept, .int t_isKept, .ref a_t_text, .int t_length, .ref a_t_passing, .int t_at_r7, .int t_fault, .int t_open, .int t_asked, .int t_byGun, .int t_prizeMost, .ref a_t_order, .ref a_t_times, .int t_listed])), (a_t_text, .inl (cB, 200, .inl t_text))] := hD
        refine lv_istore_n (lv' := [(3, .int r6), (2, .int s0_j120), (1, .int r1), (0, .ref a_t)]) hx hb dX11_unit_146 rfl hl (by decide) rfl (fun ls hl => ?_)
        refine lv_iload_n hx hb dX11_unit_147 rfl (lv_at hl 0 rfl) ?_
        refine lv_bipush (v := (nI 61)) hx hb dX11_unit_148 rfl ?_
        have J171 : ∀ (H : Heap) (locs : List Loc) (ls : Array Slot), fX11_unit_J171 N t_length t_fault t_open t_asked t_now t_text s0_j120 r6 t_at_r7 = some (b0, t_at', t_fault', t_open') → va_P D vwCl [(a_t_now, .inl (cI, 1562, .inl t_now)), (a_t, .inr (11, [.int t_thrown, .ref a_t_now, .ref a_t_kept, .int t_isKept, .ref a_t_text, .int t_length, .ref a_t_passing, .int t_at_r7, .int t_fault, .int t_open, .int t_asked, .int t_byGun, .int t_prizeMost, .ref a_t_order, .ref a_t_times, .int t_listed])), (a_t_text, .inl (cB, 200, .inl t_text))] H → va_D A [(a_t_now, .inl (cI, 1562, .inl t_now)), (a_t, .inr (11, [.int t_thrown, .ref a_t_now, .ref a_t_kept, .int t_isKept, .ref a_t_text, .int t_length, .ref a_t_passing, .int t_at_r7, .int t_fault, .int t_open, .int t_asked, .int t_byGun, .int t_prizeMost, .ref a_t_order, .ref a_t_times, .int t_listed])), (a_t_text, .inl (cB, 200, .inl t_text))] → va_S A s.heap H locs → lv_has ls 6 [(3, .int r6), (2, .int s0_j120), (1, .int r1), (0, .ref a_t)] → W p l e (headSpec wsX11_unit ({ frames := 20, cells := 0, slots := 0, locals := 456 } : Room)).room s m #[Value.ref a_t] below meth c H locs 0 0 (MQ below (zQi (zb b0) D (zT cB cI cZ) [(a_t, .inr (11, [.int t_thrown, .ref a_t_now, .ref a_t_kept, .int t_isKept, .ref a_t_text, .int t_length, .ref a_t_passing, .int t_at', .int t_fault', .int t_open', .int t_asked, .int t_byGun, .int t_prizeMost, .ref a_t_order, .ref a_t_times, .int t_listed])), (a_t_now, .inl (cI, 1562, .inl t_now)), (a_t_text, .inl (cB, 200, .inl t_text))] A) #[Value.ref a_t] s 0 0 A) (F0 m 171 ls []) := by
          intro  H locs ls h hP hD hS hl
          unfold fX11_unit_J171 at h
          refine lv_aload_n hx hb dX11_unit_171 rfl (lv_at hl 3 rfl) ?_
          refine lv_dup hx hb dX11_unit_172 rfl ?_
          refine va_get (D := D) (ci := 11) (C := RX11) (T := TX11) (N := 16) hx hb hts qX11_unit_X11 hown hK hP 1 rfl rfl 7 (by decide) (hts _ kX11_unit_0) (fun _ h9 => h9) rfl dX11_unit_173 ?_
          refine lv_iconst (v := (nI 1)) hx hb dX11_unit_176 rfl ?_
          refine lv_iadd hx hb dX11_unit_177 ?_
          refine va_put (D := D) (ci := 11) (ty := .int) (C := RX11) (T := TX11) (N := 16) hx hb hts qX11_unit_X11 tyX11 tyX11_ok nmX11 hown hK hP hD hS 1 rfl rfl 7 (by decide) (hts _ kX11_unit_0) (fun _ h9 => h9) rfl (by decide +kernel) rfl (by first | rfl | exact zz_fit) (Nat.le_of_ble_eq_true rfl) dX11_unit_178 (fun H locs hP hD hS => ?_)
          have hP : va_P D vwCl [(a_t_now, .inl (cI, 1562, .inl t_now)), (a_t, .inr (11, [.int t_thrown, .ref a_t_now, .ref a_t_kept, .int t_isKept, .ref a_t_text, .int t_length, .ref a_t_passing, .int (t_at_r7 + (nI 1)), .int t_fault, .int t_open, .int t_asked, .int t_byGun, .int t_prizeMost, .ref a_t_order, .ref a_t_times, .int t_listed])), (a_t_text, .inl (cB, 200, .inl t_text))] H := hP
          have hD : va_D A [(a_t_now, .inl (cI, 1562, .inl t_now)), (a_t, .inr (11, [.int t_thrown, .ref a_t_now, .ref a_t_kept, .int t_isKept, .ref a_t_text, .int t_length, .ref a_t_passing, .int (t_at_r7 + (nI 1)), .int t_fault, .int t_open, .int t_asked, .int t_byGun, .int t_prizeMost, .ref a_t_order, .ref a_t_times, .int t_listed])), (a_t_text, .inl (cB, 200, .inl t_text))] := hD
          refine lv_aload_n hx hb dX11_unit_181 rfl (lv_at hl 3 rfl) ?_
          obtain ⟨⟨r9, t_at_r10, t_fault_r11⟩, e12, h⟩ := zz_b h
          dsimp only at h
          refine zVi (As := []) (rest := []) (C := RX11) (wr := [(a_t_now, .inl (cI, 1562, .inl t_now))]) [1, 2] [0] 0 ⟨hx, hb, hml, hown, hts⟩ (mX11_number l D cB cI cZ a_t a_t_now a_t_kept a_t_text a_t_passing a_t_order a_t_times t_thrown t_isKept t_length (t_at_r7 + (nI 1)) t_fault t_open t_asked t_byGun t_prizeMost t_listed t_text H.size N r9 t_at_r10 t_fault_r11 e12) (cwV 0 hts gX11_unit_X11_number rfl rfl rfl (by decide +kernel) ⟨Nat.le_of_ble_eq_true rfl, Nat.le_of_ble_eq_true rfl⟩) hK hN hZ hP hD hS hA rfl rfl rfl rfl rfl rfl rfl rfl hl.1 rfl (lv_room (Nat.le_of_ble_eq_true rfl)) dX11_unit_182 ⟨Nat.le_of_ble_eq_true rfl, Nat.le_of_ble_eq_true rfl⟩ (fun H locs hP hD hS => ?_)
          have hP : va_P D vwCl [(a_t_now, .inl (cI, 1562, .inl t_now)), (a_t, .inr (11, [.int t_thrown, .ref a_t_now, .ref a_t_kept, .int t_isKept, .ref a_t_text, .int t_length, .ref a_t_passing, .int t_at_r10, .int t_fault_r11, .int t_open, .int t_asked, .int t_byGun, .int t_prizeMost, .ref a_t_order, .ref a_t_times, .int t_listed])), (a_t_text, .inl (cB, 200, .inl t_text))] H := hP
          have hD : va_D A [(a_t_now, .inl (cI, 1562, .inl t_now)), (a_t, .inr (11, [.int t_thrown, .ref a_t_now, .ref a_t_kept, .int t_isKept, .ref a_t_text, .int t_length, .ref a_t_passing, .int t_at_r10, .int t_fault_r11, .int t_open, .int t_asked, .int t_byGun, .int t_prizeMost, .ref a_t_order, .ref a_t_times, .int t_listed])), (a_t_text, .inl (cB, 200, .inl t_text))] := hD
          refine lv_istore (lv' := [(4, .int r9), (3, .int r6), (2, .int s0_j120), (1, .int r1), (0, .ref a_t)]) hx hb dX11_unit_185 hl (by decide) rfl (fun ls hl => ?_)
          refine lv_aload_n hx hb dX11_unit_187 rfl (lv_at hl 4 rfl) ?_
          refine va_get (D := D) (ci := 11) (C := RX11) (T := TX11) (N := 16) hx hb hts qX11_unit_X11 hown hK hP 1 rfl rfl 10 (by decide) (hts _ kX11_unit_2) (fun _ h9 => h9) rfl dX11_unit_188 ?_
          refine lv_iconst (v := (-1 : Int32)) hx hb dX11_unit_191 rfl ?_
          refine lv_icmp_ne (tgt := 199) hx hb dX11_unit_192 (by decide) (fun c13 => ?_) (fun c13 => ?_)
          · have h := zz_f h c13
            refine lv_aload_n hx hb dX11_unit_199 rfl (lv_at hl 4 rfl) ?_
            refine lv_aload_n hx hb dX11_unit_200 rfl (lv_at hl 4 rfl) ?_
            refine va_get (D := D) (ci := 11) (C := RX11) (T := TX11) (N := 16) hx hb hts qX11_unit_X11 hown hK hP 1 rfl rfl 10 (by decide) (hts _ kX11_unit_2) (fun _ h9 => h9) rfl dX11_unit_201 ?_
            refine lv_iload_n hx hb dX11_unit_204 rfl (lv_at hl 2 rfl) ?_
            obtain ⟨r14, e15, h⟩ := zz_b h
            refine zVi (As := [.int t_asked, .int s0_j120]) (rest := []) (C := RX11) (wr := [(a_t_text, .inl (cB, 200, .inl t_text))]) [1, 0] [2] 0 ⟨hx, hb, hml, hown, hts⟩ (mX11_of l D cB cI cZ a_t a_t_now a_t_kept a_t_text a_t_passing a_t_order a_t_times t_thrown t_isKept t_length t_at_r10 t_fault_r11 t_open t_asked t_byGun t_prizeMost t_listed t_now H.size t_asked s0_j120 r14 e15) (cwV 2 hts gX11_unit_X11_of rfl rfl rfl (by decide +kernel) ⟨Nat.le_of_ble_eq_true rfl, Nat.le_of_ble_eq_true rfl⟩) hK hN hZ hP hD hS hA rfl rfl rfl rfl rfl rfl rfl rfl hl.1 rfl (lv_room (Nat.le_of_ble_eq_true rfl)) dX11_unit_205 ⟨Nat.le_of_ble_eq_true rfl, Nat.le_of_ble_eq_true rfl⟩ (fun H locs hP hD hS => ?_)
            have hP : va_P D vwCl [(a_t_text, .inl (cB, 200, .inl t_text)), (a_t, .inr (11, [.int t_thrown, .ref a_t_now, .ref a_t_kept, .int t_isKept, .ref a_t_text, .int t_length, .ref a_t_passing, .int t_at_r10, .int t_fault_r11, .int t_open, .int t_asked, .int t_byGun, .int t_prizeMost, .ref a_t_order, .ref a_t_times, .int t_listed])), (a_t_now, .inl (cI, 1562, .inl t_now))] H := hP
            have hD : va_D A [(a_t_text, .inl (cB, 200, .inl t_text)), (a_t, .inr (11, [.int t_thrown, .ref a_t_now, .ref a_t_kept, .int t_isKept, .ref a_t_text, .int t_length, .ref a_t_passing, .int t_at_r10, .int t_fault_r11, .int t_open, .int t_asked, .int t_byGun, .int t_prizeMost, .ref a_t_order, .ref a_t_times, .int t_listed])), (a_t_now, .inl (cI, 1562, .inl t_now))] := hD
            refine lv_istore (lv' := [(5, .int r14), (4, .int r9), (3, .int r6), (2, .int s0_j120), (1, .int r1), (0, .ref a_t)]) hx hb dX11_unit_208 hl (by decide) rfl (fun ls hl => ?_)
            refine lv_iload_n hx hb dX11_unit_210 rfl (lv_at hl 2 rfl) ?_
            refine lv_bipush (v := (nI 61)) hx hb dX11_unit_211 rfl ?_
            refine lv_icmp_ne (tgt := 231) hx hb dX11_unit_213 (by decide) (fun c16 => ?_) (fun c16 => ?_)
            · have h := zz_f h c16
              refine lv_iload_n hx hb dX11_unit_231 rfl (lv_at hl 2 rfl) ?_
              refine lv_bipush (v := (nI 60)) hx hb dX11_unit_232 rfl ?_
              refine lv_icmp_ne (tgt := 252) hx hb dX11_unit_234 (by decide) (fun c17 => ?_) (fun c17 => ?_)
              · have h := zz_f h c17
                refine lv_iload hx hb dX11_unit_252 (lv_at hl 0 rfl) ?_
                refine lv_iload hx hb dX11_unit_254 (lv_at hl 1 rfl) ?_
                refine lv_icmp_le (tgt := 263) hx hb dX11_unit_256 (by decide) (fun c18 => ?_) (fun c18 => ?_)
                · have h := zz_t h c18
                  refine lv_iconst (v := (nI 0)) hx hb dX11_unit_263 rfl ?_
                  obtain ⟨j0_, g_⟩ := Prod.mk.inj (Option.some.inj h)
                  obtain ⟨j1_, g_⟩ := Prod.mk.inj g_
                  obtain ⟨j2_, g_⟩ := Prod.mk.inj g_
                  have j3_ := g_
                  subst j0_
                  subst j1_
                  subst j2_
                  subst j3_
                  exact W.zret (v := (nI 0)) hx hb hr rfl (fun t ht hW => ⟨⟨_, (), rfl, rfl, zPost.of hP hD hK ht hW [1, 2, 0] rfl rfl rfl⟩, hS.F ht⟩) hS.2.2 dX11_unit_264
                · have h := zz_f h c18
                  refine lv_iconst (v := (nI 1)) hx hb dX11_unit_259 rfl ?_
                  refine lv_goto (tgt := 264) hx hb dX11_unit_260 (by decide) ?_
                  obtain ⟨j0_, g_⟩ := Prod.mk.inj (Option.some.inj h)
                  obtain ⟨j1_, g_⟩ := Prod.mk.inj g_
                  obtain ⟨j2_, g_⟩ := Prod.mk.inj g_
                  have j3_ := g_
                  subst j0_
                  subst j1_
                  subst j2_
                  subst j3_
                  exact W.zret (v := (nI 1)) hx hb hr rfl (fun t ht hW => ⟨⟨_, (), rfl, rfl, zPost.of hP hD hK ht hW [1, 2, 0] rfl rfl rfl⟩, hS.F ht⟩) hS.2.2 dX11_unit_264
              · have h := zz_t h c17
                refine lv_iload hx hb dX11_unit_237 (lv_at hl 0 rfl) ?_
                refine lv_iload hx hb dX11_unit_239 (lv_at hl 1 rfl) ?_
                refine lv_icmp_ge (tgt := 248) hx hb dX11_unit_241 (by decide) (fun c19 => ?_) (fun c19 => ?_)
                · have h := zz_t h c19
                  refine lv_iconst (v := (nI 0)) hx hb dX11_unit_248 rfl ?_
                  refine lv_goto (tgt := 264) hx hb dX11_unit_249 (by decide) ?_
                  obtain ⟨j0_, g_⟩ := Prod.mk.inj (Option.some.inj h)
                  obtain ⟨j1_, g_⟩ := Prod.mk.inj g_
                  obtain ⟨j2_, g_⟩ := Prod.mk.inj g_
                  have j3_ := g_
                  subst j0_
                  subst j1_
                  subst j2_
                  subst j3_
                  exact W.zret (v := (nI 0)) hx hb hr rfl (fun t ht hW => ⟨⟨_, (), rfl, rfl, zPost.of hP hD hK ht hW [1, 2, 0] rfl rfl rfl⟩, hS.F ht⟩) hS.2.2 dX11_unit_264
                · have h := zz_f h c19
                  refine lv_iconst (v := (nI 1)) hx hb dX11_unit_244 rfl ?_
                  refine lv_goto (tgt := 264) hx hb dX11_unit_245 (by decide) ?_
                  obtain ⟨j0_, g_⟩ := Prod.mk.inj (Option.some.inj h)
                  obtain ⟨j1_, g_⟩ := Prod.mk.inj g_
                  obtain ⟨j2_, g_⟩ := Prod.mk.inj g_
                  have j3_ := g_
                  subst j0_
                  subst j1_
                  subst j2_
                  subst j3_
                  exact W.zret (v := (nI 1)) hx hb hr rfl (fun t ht hW => ⟨⟨_, (), rfl, rfl, zPost.of hP hD hK ht hW [1, 2, 0] rfl rfl rfl⟩, hS.F ht⟩) hS.2.2 dX11_unit_264
            · have h := zz_t h c16
              refine lv_iload hx hb dX11_unit_216 (lv_at hl 0 rfl) ?_
              refine lv_iload hx hb dX11_unit_218 (lv_at hl 1 rfl) ?_
              refine lv_icmp_ne (tgt := 227) hx hb dX11_unit_220 (by decide) (fun c20 => ?_) (fun c20 => ?_)
              · have h := zz_f h c20
                refine lv_iconst (v := (nI 0)) hx hb dX11_unit_227 rfl ?_
                refine lv_goto (tgt := 264) hx hb dX11_unit_228 (by decide) ?_
                obtain ⟨j0_, g_⟩ := Prod.mk.inj (Option.some.inj h)
                obtain ⟨j1_, g_⟩ := Prod.mk.inj g_
                obtain ⟨j2_, g_⟩ := Prod.mk.inj g_
                have j3_ := g_
                subst j0_
                subst j1_
                subst j2_
                subst j3_
                exact W.zret (v := (nI 0)) hx hb hr rfl (fun t ht hW => ⟨⟨_, (), rfl, rfl, zPost.of hP hD hK ht hW [1, 2, 0] rfl rfl rfl⟩, hS.F ht⟩) hS.2.2 dX11_unit_264
              · have h := zz_t h c20
                refine lv_iconst (v := (nI 1)) hx hb dX11_unit_223 rfl ?_
                refine lv_goto (tgt := 264) hx hb dX11_unit_224 (by decide) ?_
                obtain ⟨j0_, g_⟩ := Prod.mk.inj (Option.some.inj h)
                obtain ⟨j1_, g_⟩ := Prod.mk.inj g_
                obtain ⟨j2_, g_⟩ := Prod.mk.inj g_
                have j3_ := g_
                subst j0_
                subst j1_
                subst j2_
                subst j3_
                exact W.zret (v := (nI 1)) hx hb hr rfl (fun t ht hW => ⟨⟨_, (), rfl, rfl, zPost.of hP hD hK ht hW [1, 2, 0] rfl rfl rfl⟩, hS.F ht⟩) hS.2.2 dX11_unit_264
          · have h := zz_t h c13
            refine lv_iconst (v := (nI 0)) hx hb dX11_unit_195 rfl ?_
            refine lv_goto (tgt := 208) hx hb dX11_unit_196 (by decide) ?_
            refine lv_istore (lv' := [(5, .int (nI 0)), (4, .int r9), (3, .int r6), (2, .int s0_j120), (1, .int r1), (0, .ref a_t)]) hx hb dX11_unit_208 hl (by decide) rfl (fun ls hl => ?_)
            refine lv_iload_n hx hb dX11_unit_210 rfl (lv_at hl 2 rfl) ?_
            refine lv_bipush (v := (nI 61)) hx hb dX11_unit_211 rfl ?_
            refine lv_icmp_ne (tgt := 231) hx hb dX11_unit_213 (by decide) (fun c21 => ?_) (fun c21 => ?_)
            · have h := zz_f h c21
              refine lv_iload_n hx hb dX11_unit_231 rfl (lv_at hl 2 rfl) ?_
              refine lv_bipush (v := (nI 60)) hx hb dX11_unit_232 rfl ?_
              refine lv_icmp_ne (tgt := 252) hx hb dX11_unit_234 (by decide) (fun c22 => ?_) (fun c22 => ?_)
              · have h := zz_f h c22
                refine lv_iload hx hb dX11_unit_252 (lv_at hl 0 rfl) ?_
                refine lv_iload hx hb dX11_unit_254 (lv_at hl 1 rfl) ?_
                refine lv_icmp_le (tgt := 263) hx hb dX11_unit_256 (by decide) (fun c23 => ?_) (fun c23 => ?_)
                · have h := zz_t h c23
                  refine lv_iconst (v := (nI 0)) hx hb dX11_unit_263 rfl ?_
                  obtain ⟨j0_, g_⟩ := Prod.mk.inj (Option.some.inj h)
                  obtain ⟨j1_, g_⟩ := Prod.mk.inj g_
                  obtain ⟨j2_, g_⟩ := Prod.mk.inj g_
                  have j3_ := g_
                  subst j0_
                  subst j1_
                  subst j2_
                  subst j3_
                  exact W.zret (v := (nI 0)) hx hb hr rfl (fun t ht hW => ⟨⟨_, (), rfl, rfl, zPost.of hP hD hK ht hW [1, 0, 2] rfl rfl rfl⟩, hS.F ht⟩) hS.2.2 dX11_unit_264
                · have h := zz_f h c23
                  refine lv_iconst (v := (nI 1)) hx hb dX11_unit_259 rfl ?_
                  refine lv_goto (tgt := 264) hx hb dX11_unit_260 (by decide) ?_
                  obtain ⟨j0_, g_⟩ := Prod.mk.inj (Option.some.inj h)
                  obtain ⟨j1_, g_⟩ := Prod.mk.inj g_
                  obtain ⟨j2_, g_⟩ := Prod.mk.inj g_
                  have j3_ := g_
                  subst j0_
                  subst j1_
                  subst j2_
                  subst j3_
                  exact W.zret (v := (nI 1)) hx hb hr rfl (fun t ht hW => ⟨⟨_, (), rfl, rfl, zPost.of hP hD hK ht hW [1, 0, 2] rfl rfl rfl⟩, hS.F ht⟩) hS.2.2 dX11_unit_264
              · have h := zz_t h c22
                refine lv_iload hx hb dX11_unit_237 (lv_at hl 0 rfl) ?_
                refine lv_iload hx hb dX11_unit_239 (lv_at hl 1 rfl) ?_
                refine lv_icmp_ge (tgt := 248) hx hb dX11_unit_241 (by decide) (fun c24 => ?_) (fun c24 => ?_)
                · have h := zz_t h c24
                  refine lv_iconst (v := (nI 0)) hx hb dX11_unit_248 rfl ?_
                  refine lv_goto (tgt := 264) hx hb dX11_unit_249 (by decide) ?_
                  obtain ⟨j0_, g_⟩ := Prod.mk.inj (Option.some.inj h)
                  obtain ⟨j1_, g_⟩ := Prod.mk.inj g_
                  obtain ⟨j2_, g_⟩ := Prod.mk.inj g_
                  have j3_ := g_
                  subst j0_
                  subst j1_
                  subst j2_
                  subst j3_
                  exact W.zret (v := (nI 0)) hx hb hr rfl (fun t ht hW => ⟨⟨_, (), rfl, rfl, zPost.of hP hD hK ht hW [1, 0, 2] rfl rfl rfl⟩, hS.F ht⟩) hS.2.2 dX11_unit_264
                · have h := zz_f h c24
                  refine lv_iconst (v := (nI 1)) hx hb dX11_unit_244 rfl ?_
                  refine lv_goto (tgt := 264) hx hb dX11_unit_245 (by decide) ?_
                  obtain ⟨j0_, g_⟩ := Prod.mk.inj (Option.some.inj h)
                  obtain ⟨j1_, g_⟩ := Prod.mk.inj g_
                  obtain ⟨j2_, g_⟩ := Prod.mk.inj g_
                  have j3_ := g_
                  subst j0_
                  subst j1_
                  subst j2_
                  subst j3_
                  exact W.zret (v := (nI 1)) hx hb hr rfl (fun t ht hW => ⟨⟨_, (), rfl, rfl, zPost.of hP hD hK ht hW [1, 0, 2] rfl rfl rfl⟩, hS.F ht⟩) hS.2.2 dX11_unit_264
            · have h := zz_t h c21
              refine lv_iload hx hb dX11_unit_216 (lv_at hl 0 rfl) ?_
              refine lv_iload hx hb dX11_unit_218 (lv_at hl 1 rfl) ?_
              refine lv_icmp_ne (tgt := 227) hx hb dX11_unit_220 (by decide) (fun c25 => ?_) (fun c25 => ?_)
              · have h := zz_f h c25
                refine lv_iconst (v := (nI 0)) hx hb dX11_unit_227 rfl ?_
                refine lv_goto (tgt := 264) hx hb dX11_unit_228 (by decide) ?_
                obtain ⟨j0_, g_⟩ := Prod.mk.inj (Option.some.inj h)
                obtain ⟨j1_, g_⟩ := Prod.mk.inj g_
                obtain ⟨j2_, g_⟩ := Prod.mk.inj g_
                have j3_ := g_
                subst j0_
                subst j1_
                subst j2_
                subst j3_
                exact W.zret (v := (nI 0)) hx hb hr rfl (fun t ht hW => ⟨⟨_, (), rfl, rfl, zPost.of hP hD hK ht hW [1, 0, 2] rfl rfl rfl⟩, hS.F ht⟩) hS.2.2 dX11_unit_264
              · have h := zz_t h c25
                refine lv_iconst (v := (nI 1)) hx hb dX11_unit_223 rfl ?_
                refine lv_goto (tgt := 264) hx hb dX11_unit_224 (by decide) ?_
                obtain ⟨j0_, g_⟩ := Prod.mk.inj (Option.some.inj h)
                obtain ⟨j1_, g_⟩ := Prod.mk.inj g_
                obtain ⟨j2_, g_⟩ := Prod.mk.inj g_
                have j3_ := g_
                subst j0_
                subst j1_
                subst j2_
                subst j3_
                exact W.zret (v := (nI 1)) hx hb hr rfl (fun t ht hW => ⟨⟨_, (), rfl, rfl, zPost.of hP hD hK ht hW [1, 0, 2] rfl rfl rfl⟩, hS.F ht⟩) hS.2.2 dX11_unit_264
        refine lv_icmp_eq (tgt := 171) hx hb dX11_unit_150 (by decide) (fun c26 => ?_) (fun c26 => ?_)
        · have h := zz_t h c26
          exact J171  _ _ _ h (hP.sub [0, 1, 2] rfl) (hD.sub [0, 1, 2] rfl rfl) hS (lv_sub hl [0, 1, 2, 3] rfl)
        · have h := zz_f h c26
          refine lv_iload_n hx hb dX11_unit_153 rfl (lv_at hl 0 rfl) ?_
          refine lv_bipush (v := (nI 60)) hx hb dX11_unit_154 rfl ?_
          refine lv_icmp_eq (tgt := 171) hx hb dX11_unit_156 (by decide) (fun c27 => ?_) (fun c27 => ?_)
          · have h := zz_t h c27
            exact J171  _ _ _ h (hP.sub [0, 1, 2] rfl) (hD.sub [0, 1, 2] rfl rfl) hS (lv_sub hl [0, 1, 2, 3] rfl)
          · have h := zz_f h c27
            refine lv_iload_n hx hb dX11_unit_159 rfl (lv_at hl 0 rfl) ?_
            refine lv_bipush (v := (nI 62)) hx hb dX11_unit_160 rfl ?_
            refine lv_icmp_eq (tgt := 171) hx hb dX11_unit_162 (by decide) (fun c28 => ?_) (fun c28 => ?_)
            · have h := zz_t h c28
              exact J171  _ _ _ h (hP.sub [0, 1, 2] rfl) (hD.sub [0, 1, 2] rfl rfl) hS (lv_sub hl [0, 1, 2, 3] rfl)
            · have h := zz_f h c28
              refine lv_aload_n hx hb dX11_unit_165 rfl (lv_at hl 3 rfl) ?_
              obtain ⟨t_fault_r29, e30, h⟩ := zz_b h
              refine zVv (As := []) (rest := []) (C := RX11) (wr := [(a_t_now, .inl (cI, 1562, .inl t_now)), (a_t_text, .inl (cB, 200, .inl t_text))]) [1] [0, 2] 0 ⟨hx, hb, hml, hown, hts⟩ (mX11_wrong l D cB cI cZ a_t a_t_now a_t_kept a_t_text a_t_passing a_t_order a_t_times t_thrown t_isKept t_length t_at_r7 t_fault t_open t_asked t_byGun t_prizeMost t_listed H.size t_fault_r29 e30) (cwV 0 hts gX11_unit_X11_wrong rfl rfl rfl (by decide +kernel) ⟨Nat.le_of_ble_eq_true rfl, Nat.le_of_ble_eq_true rfl⟩) hK hN hZ hP hD hS hA rfl rfl rfl rfl rfl rfl rfl rfl hl.1 rfl (lv_room (Nat.le_of_ble_eq_true rfl)) dX11_unit_166 ⟨Nat.le_of_ble_eq_true rfl, Nat.le_of_ble_eq_true rfl⟩ (fun H locs hP hD hS => ?_)
              have hP : va_P D vwCl [(a_t_now, .inl (cI, 1562, .inl t_now)), (a_t_text, .inl (cB, 200, .inl t_text)), (a_t, .inr (11, [.int t_thrown, .ref a_t_now, .ref a_t_kept, .int t_isKept, .ref a_t_text, .int t_length, .ref a_t_passing, .int t_at_r7, .int t_fault_r29, .int t_open, .int t_asked, .int t_byGun, .int t_prizeMost, .ref a_t_order, .ref a_t_times, .int t_listed]))] H := hP
              have hD : va_D A [(a_t_now, .inl (cI, 1562, .inl t_now)), (a_t_text, .inl (cB, 200, .inl t_text)), (a_t, .inr (11, [.int t_thrown, .ref a_t_now, .ref a_t_kept, .int t_isKept, .ref a_t_text, .int t_length, .ref a_t_passing, .int t_at_r7, .int t_fault_r29, .int t_open, .int t_asked, .int t_byGun, .int t_prizeMost, .ref a_t_order, .ref a_t_times, .int t_listed]))] := hD
              refine lv_iconst (v := (nI 0)) hx hb dX11_unit_169 rfl ?_
              obtain ⟨j0_, g_⟩ := Prod.mk.inj (Option.some.inj h)
              obtain ⟨j1_, g_⟩ := Prod.mk.inj g_
              obtain ⟨j2_, g_⟩ := Prod.mk.inj g_
              have j3_ := g_
              subst j0_
              subst j1_
              subst j2_
              subst j3_
              exact W.zret (v := (nI 0)) hx hb hr rfl (fun t ht hW => ⟨⟨_, (), rfl, rfl, zPost.of hP hD hK ht hW [2, 0, 1] rfl rfl rfl⟩, hS.F ht⟩) hS.2.2 dX11_unit_170
      · have h := zz_t h c5
        refine lv_aload_n hx hb dX11_unit_126 rfl (lv_at hl 2 rfl) ?_
        obtain ⟨t_fault_r31, e32, h⟩ := zz_b h
        refine zVv (As := []) (rest := []) (C := RX11) (wr := [(a_t_now, .inl (cI, 1562, .inl t_now)), (a_t_text, .inl (cB, 200, .inl t_text))]) [1] [0, 2] 0 ⟨hx, hb, hml, hown, hts⟩ (mX11_wrong l D cB cI cZ a_t a_t_now a_t_kept a_t_text a_t_passing a_t_order a_t_times t_thrown t_isKept t_length t_at_r2 t_fault t_open t_asked t_byGun t_prizeMost t_listed H.size t_fault_r31 e32) (cwV 0 hts gX11_unit_X11_wrong rfl rfl rfl (by decide +kernel) ⟨Nat.le_of_ble_eq_true rfl, Nat.le_of_ble_eq_true rfl⟩) hK hN hZ hP hD hS hA rfl rfl rfl rfl rfl rfl rfl rfl hl.1 rfl (lv_room (Nat.le_of_ble_eq_true rfl)) dX11_unit_127 ⟨Nat.le_of_ble_eq_true rfl, Nat.le_of_ble_eq_true rfl⟩ (fun H locs hP hD hS => ?_)
        have hP : va_P D vwCl [(a_t_now, .inl (cI, 1562, .inl t_now)), (a_t_text, .inl (cB, 200, .inl t_text)), (a_t, .inr (11, [.int t_thrown, .ref a_t_now, .ref a_t_kept, .int t_isKept, .ref a_t_text, .int t_length, .ref a_t_passing, .int t_at_r2, .int t_fault_r31, .int t_open, .int t_asked, .int t_byGun, .int t_prizeMost, .ref a_t_order, .ref a_t_times, .int t_listed]))] H := hP
        have hD : va_D A [(a_t_now, .inl (cI, 1562, .inl t_now)), (a_t_text, .inl (cB, 200, .inl t_text)), (a_t, .inr (11, [.int t_thrown, .ref a_t_now, .ref a_t_kept, .int t_isKept, .ref a_t_text, .int t_length, .ref a_t_passing, .int t_at_r2, .int t_fault_r31, .int t_open, .int t_asked, .int t_byGun, .int t_prizeMost, .ref a_t_order, .ref a_t_times, .int t_listed]))] := hD
        refine lv_iconst (v := (nI 0)) hx hb dX11_unit_130 rfl ?_
        obtain ⟨j0_, g_⟩ := Prod.mk.inj (Option.some.inj h)
        obtain ⟨j1_, g_⟩ := Prod.mk.inj g_
        obtain ⟨j2_, g_⟩ := Prod.mk.inj g_
        have j3_ := g_
        subst j0_
        subst j1_
        subst j2_
        subst j3_
        exact W.zret (v := (nI 0)) hx hb hr rfl (fun t ht hW => ⟨⟨_, (), rfl, rfl, zPost.of hP hD hK ht hW [2, 0, 1] rfl rfl rfl⟩, hS.F ht⟩) hS.2.2 dX11_unit_131
    refine lv_icmp_ne (tgt := 79) hx hb dX11_unit_72 (by decide) (fun c33 => ?_) (fun c33 => ?_)
    · have h := zz_f h c33
      refine lv_iload_n hx hb dX11_unit_79 rfl (lv_at hl 0 rfl) ?_
      refine lv_bipush (v := (nI 121)) hx hb dX11_unit_80 rfl ?_
      refine lv_icmp_ne (tgt := 89) hx hb dX11_unit_82 (by decide) (fun c34 => ?_) (fun c34 => ?_)
      · have h := zz_f h c34
        refine lv_iload_n hx hb dX11_unit_89 rfl (lv_at hl 0 rfl) ?_
        refine lv_bipush (v := (nI 116)) hx hb dX11_unit_90 rfl ?_
        refine lv_icmp_ne (tgt := 99) hx hb dX11_unit_92 (by decide) (fun c35 => ?_) (fun c35 => ?_)
        · have h := zz_f h c35
          refine lv_iload_n hx hb dX11_unit_99 rfl (lv_at hl 0 rfl) ?_
          refine lv_bipush (v := (nI 112)) hx hb dX11_unit_100 rfl ?_
          refine lv_icmp_ne (tgt := 109) hx hb dX11_unit_102 (by decide) (fun c36 => ?_) (fun c36 => ?_)
          · have h := zz_f h c36
            refine lv_iload_n hx hb dX11_unit_109 rfl (lv_at hl 0 rfl) ?_
            refine lv_bipush (v := (nI 107)) hx hb dX11_unit_110 rfl ?_
            refine lv_icmp_ne (tgt := 119) hx hb dX11_unit_112 (by decide) (fun c37 => ?_) (fun c37 => ?_)
            · have h := zz_f h c37
              refine lv_iconst (v := (-1 : Int32)) hx hb dX11_unit_119 rfl ?_
              exact J120 (-1 : Int32) _ _ _ h (hP.sub [0, 1, 2] rfl) (hD.sub [0, 1, 2] rfl rfl) hS (lv_sub hl [0, 1] rfl)
            · have h := zz_t h c37
              refine lv_iconst (v := (nI 0)) hx hb dX11_unit_115 rfl ?_
              refine lv_goto (tgt := 120) hx hb dX11_unit_116 (by decide) ?_
              exact J120 (nI 0) _ _ _ h (hP.sub [0, 1, 2] rfl) (hD.sub [0, 1, 2] rfl rfl) hS (lv_sub hl [0, 1] rfl)
          · have h := zz_t h c36
            refine lv_iconst (v := (nI 5)) hx hb dX11_unit_105 rfl ?_
            refine lv_goto (tgt := 120) hx hb dX11_unit_106 (by decide) ?_
            exact J120 (nI 5) _ _ _ h (hP.sub [0, 1, 2] rfl) (hD.sub [0, 1, 2] rfl rfl) hS (lv_sub hl [0, 1] rfl)
        · have h := zz_t h c35
          refine lv_iconst (v := (nI 4)) hx hb dX11_unit_95 rfl ?_
          refine lv_goto (tgt := 120) hx hb dX11_unit_96 (by decide) ?_
          exact J120 (nI 4) _ _ _ h (hP.sub [0, 1, 2] rfl) (hD.sub [0, 1, 2] rfl rfl) hS (lv_sub hl [0, 1] rfl)
      · have h := zz_t h c34
        refine lv_iconst (v := (nI 2)) hx hb dX11_unit_85 rfl ?_
        refine lv_goto (tgt := 120) hx hb dX11_unit_86 (by decide) ?_
        exact J120 (nI 2) _ _ _ h (hP.sub [0, 1, 2] rfl) (hD.sub [0, 1, 2] rfl rfl) hS (lv_sub hl [0, 1] rfl)
    · have h := zz_t h c33
      refine lv_iconst (v := (nI 3)) hx hb dX11_unit_75 rfl ?_
      refine lv_goto (tgt := 120) hx hb dX11_unit_76 (by decide) ?_
      exact J120 (nI 3) _ _ _ h (hP.sub [0, 1, 2] rfl) (hD.sub [0, 1, 2] rfl rfl) hS (lv_sub hl [0, 1] rfl)
  · have h := zz_t h c4
    refine lv_aload_n hx hb dX11_unit_11 rfl (lv_at hl 1 rfl) ?_
    refine va_get (D := D) (ci := 11) (C := RX11) (T := TX11) (N := 16) hx hb hts qX11_unit_X11 hown hK hP 1 rfl rfl 9 (by decide) (hts _ kX11_unit_3) (fun _ h9 => h9) rfl dX11_unit_12 ?_
    refine lv_bipush (v := (nI 8)) hx hb dX11_unit_15 rfl ?_
    refine lv_icmp_ne (tgt := 26) hx hb dX11_unit_17 (by decide) (fun c38 => ?_) (fun c38 => ?_)
    · have h := zz_f h c38
      refine lv_aload_n hx hb dX11_unit_26 rfl (lv_at hl 1 rfl) ?_
      refine lv_dup hx hb dX11_unit_27 rfl ?_
      refine va_get (D := D) (ci := 11) (C := RX11) (T := TX11) (N := 16) hx hb hts qX11_unit_X11 hown hK hP 1 rfl rfl 9 (by decide) (hts _ kX11_unit_3) (fun _ h9 => h9) rfl dX11_unit_28 ?_
      refine lv_iconst (v := (nI 1)) hx hb dX11_unit_31 rfl ?_
      refine lv_iadd hx hb dX11_unit_32 ?_
      refine va_put (D := D) (ci := 11) (ty := .int) (C := RX11) (T := TX11) (N := 16) hx hb hts qX11_unit_X11 tyX11 tyX11_ok nmX11 hown hK hP hD hS 1 rfl rfl 9 (by decide) (hts _ kX11_unit_3) (fun _ h9 => h9) rfl (by decide +kernel) rfl (by first | rfl | exact zz_fit) (Nat.le_of_ble_eq_true rfl) dX11_unit_33 (fun H locs hP hD hS => ?_)
      have hP : va_P D vwCl [(a_t_now, .inl (cI, 1562, .inl t_now)), (a_t, .inr (11, [.int t_thrown, .ref a_t_now, .ref a_t_kept, .int t_isKept, .ref a_t_text, .int t_length, .ref a_t_passing, .int t_at_r2, .int t_fault, .int (t_open + (nI 1)), .int t_asked, .int t_byGun, .int t_prizeMost, .ref a_t_order, .ref a_t_times, .int t_listed])), (a_t_text, .inl (cB, 200, .inl t_text))] H := hP
      have hD : va_D A [(a_t_now, .inl (cI, 1562, .inl t_now)), (a_t, .inr (11, [.int t_thrown, .ref a_t_now, .ref a_t_kept, .int t_isKept, .ref a_t_text, .int t_length, .ref a_t_passing, .int t_at_r2, .int t_fault, .int (t_open + (nI 1)), .int t_asked, .int t_byGun, .int t_prizeMost, .ref a_t_order, .ref a_t_times, .int t_listed])), (a_t_text, .inl (cB, 200, .inl t_text))] := hD
      refine lv_aload_n hx hb dX11_unit_36 rfl (lv_at hl 1 rfl) ?_
      refine lv_dup hx hb dX11_unit_37 rfl ?_
      refine va_get (D := D) (ci := 11) (C := RX11) (T := TX11) (N := 16) hx hb hts qX11_unit_X11 hown hK hP 1 rfl rfl 7 (by decide) (hts _ kX11_unit_0) (fun _ h9 => h9) rfl dX11_unit_38 ?_
      refine lv_iconst (v := (nI 1)) hx hb dX11_unit_41 rfl ?_
      refine lv_iadd hx hb dX11_unit_42 ?_
      refine va_put (D := D) (ci := 11) (ty := .int) (C := RX11) (T := TX11) (N := 16) hx hb hts qX11_unit_X11 tyX11 tyX11_ok nmX11 hown hK hP hD hS 1 rfl rfl 7 (by decide) (hts _ kX11_unit_0) (fun _ h9 => h9) rfl (by decide +kernel) rfl (by first | rfl | exact zz_fit) (Nat.le_of_ble_eq_true rfl) dX11_unit_43 (fun H locs hP hD hS => ?_)
      have hP : va_P D vwCl [(a_t_now, .inl (cI, 1562, .inl t_now)), (a_t, .inr (11, [.int t_thrown, .ref a_t_now, .ref a_t_kept, .int t_isKept, .ref a_t_text, .int t_length, .ref a_t_passing, .int (t_at_r2 + (nI 1)), .int t_fault, .int (t_open + (nI 1)), .int t_asked, .int t_byGun, .int t_prizeMost, .ref a_t_order, .ref a_t_times, .int t_listed])), (a_t_text, .inl (cB, 200, .inl t_text))] H := hP
      have hD : va_D A [(a_t_now, .inl (cI, 1562, .inl t_now)), (a_t, .inr (11, [.int t_thrown, .ref a_t_now, .ref a_t_kept, .int t_isKept, .ref a_t_text, .int t_length, .ref a_t_passing, .int (t_at_r2 + (nI 1)), .int t_fault, .int (t_open + (nI 1)), .int t_asked, .int t_byGun, .int t_prizeMost, .ref a_t_order, .ref a_t_times, .int t_listed])), (a_t_text, .inl (cB, 200, .inl t_text))] := hD
      refine lv_aload_n hx hb dX11_unit_46 rfl (lv_at hl 1 rfl) ?_
      obtain ⟨⟨b39, t_at_r40, t_fault_r41, t_open_r42⟩, e43, h⟩ := zz_b h
      dsimp only at h
      refine zVi (As := []) (rest := []) (C := RX11) (wr := []) [1, 0, 2] [] 0 ⟨hx, hb, hml, hown, hts⟩ (mX11_tests_5 l D cB cI cZ a_t a_t_now a_t_kept a_t_text a_t_passing a_t_order a_t_times t_thrown t_isKept t_length (t_at_r2 + (nI 1)) t_fault (t_open + (nI 1)) t_asked t_byGun t_prizeMost t_listed t_now t_text H.size N b39 t_at_r40 t_fault_r41 t_open_r42 (hT ▸ e43)) (cwV 0 hts gX11_unit_X11_tests rfl rfl rfl (by decide +kernel) ⟨Nat.le_of_ble_eq_true rfl, Nat.le_of_ble_eq_true rfl⟩) hK hN hZ hP hD hS hA rfl rfl rfl rfl rfl rfl rfl rfl hl.1 rfl (lv_room (Nat.le_of_ble_eq_true rfl)) dX11_unit_47 ⟨Nat.le_of_ble_eq_true rfl, Nat.le_of_ble_eq_true rfl⟩ (fun H locs hP hD hS => ?_)
      have hP : va_P D vwCl [(a_t, .inr (11, [.int t_thrown, .ref a_t_now, .ref a_t_kept, .int t_isKept, .ref a_t_text, .int t_length, .ref a_t_passing, .int t_at_r40, .int t_fault_r41, .int t_open_r42, .int t_asked, .int t_byGun, .int t_prizeMost, .ref a_t_order, .ref a_t_times, .int t_listed])), (a_t_now, .inl (cI, 1562, .inl t_now)), (a_t_text, .inl (cB, 200, .inl t_text))] H := hP
      have hD : va_D A [(a_t, .inr (11, [.int t_thrown, .ref a_t_now, .ref a_t_kept, .int t_isKept, .ref a_t_text, .int t_length, .ref a_t_passing, .int t_at_r40, .int t_fault_r41, .int t_open_r42, .int t_asked, .int t_byGun, .int t_prizeMost, .ref a_t_order, .ref a_t_times, .int t_listed])), (a_t_now, .inl (cI, 1562, .inl t_now)), (a_t_text, .inl (cB, 200, .inl t_text))] := hD
      refine lv_istore_n (lv' := [(2, .int (zb b39)), (1, .int r1), (0, .ref a_t)]) hx hb dX11_unit_50 rfl hl (by decide) rfl (fun ls hl => ?_)
      refine lv_aload_n hx hb dX11_unit_51 rfl (lv_at hl 2 rfl) ?_
      refine lv_bipush (v := (nI 41)) hx hb dX11_unit_52 rfl ?_
      obtain ⟨⟨t_at_r44, t_fault_r45⟩, e46, h⟩ := zz_b h
      dsimp only at h
      refine zVv (As := [.int (nI 41)]) (rest := []) (C := RX11) (wr := [(a_t_now, .inl (cI, 1562, .inl t_now))]) [0, 2] [1] 0 ⟨hx, hb, hml, hown, hts⟩ (mX11_sign l D cB cI cZ a_t a_t_now a_t_kept a_t_text a_t_passing a_t_order a_t_times t_thrown t_isKept t_length t_at_r40 t_fault_r41 t_open_r42 t_asked t_byGun t_prizeMost t_listed t_text H.size (nI 41) N t_at_r44 t_fault_r45 e46) (cwV 1 hts gX11_unit_X11_sign rfl rfl rfl (by decide +kernel) ⟨Nat.le_of_ble_eq_true rfl, Nat.le_of_ble_eq_true rfl⟩) hK hN hZ hP hD hS hA rfl rfl rfl rfl rfl rfl rfl rfl hl.1 rfl (lv_room (Nat.le_of_ble_eq_true rfl)) dX11_unit_54 ⟨Nat.le_of_ble_eq_true rfl, Nat.le_of_ble_eq_true rfl⟩ (fun H locs hP hD hS => ?_)
      have hP : va_P D vwCl [(a_t_now, .inl (cI, 1562, .inl t_now)), (a_t, .inr (11, [.int t_thrown, .ref a_t_now, .ref a_t_kept, .int t_isKept, .ref a_t_text, .int t_length, .ref a_t_passing, .int t_at_r44, .int t_fault_r45, .int t_open_r42, .int t_asked, .int t_byGun, .int t_prizeMost, .ref a_t_order, .ref a_t_times, .int t_listed])), (a_t_text, .inl (cB, 200, .inl t_text))] H := hP
      have hD : va_D A [(a_t_now, .inl (cI, 1562, .inl t_now)), (a_t, .inr (11, [.int t_thrown, .ref a_t_now, .ref a_t_kept, .int t_isKept, .ref a_t_text, .int t_length, .ref a_t_passing, .int t_at_r44, .int t_fault_r45, .int t_open_r42, .int t_asked, .int t_byGun, .int t_prizeMost, .ref a_t_order, .ref a_t_times, .int t_listed])), (a_t_text, .inl (cB, 200, .inl t_text))] := hD
      refine lv_aload_n hx hb dX11_unit_57 rfl (lv_at hl 2 rfl) ?_
      refine lv_dup hx hb dX11_unit_58 rfl ?_
      refine va_get (D := D) (ci := 11) (C := RX11) (T := TX11) (N := 16) hx hb hts qX11_unit_X11 hown hK hP 1 rfl rfl 9 (by decide) (hts _ kX11_unit_3) (fun _ h9 => h9) rfl dX11_unit_59 ?_
      refine lv_iconst (v := (nI 1)) hx hb dX11_unit_62 rfl ?_
      refine lv_isub hx hb dX11_unit_63 ?_
      refine va_put (D := D) (ci := 11) (ty := .int) (C := RX11) (T := TX11) (N := 16) hx hb hts qX11_unit_X11 tyX11 tyX11_ok nmX11 hown hK hP hD hS 1 rfl rfl 9 (by decide) (hts _ kX11_unit_3) (fun _ h9 => h9) rfl (by decide +kernel) rfl (by first | rfl | exact zz_fit) (Nat.le_of_ble_eq_true rfl) dX11_unit_64 (fun H locs hP hD hS => ?_)
      have hP : va_P D vwCl [(a_t_now, .inl (cI, 1562, .inl t_now)), (a_t, .inr (11, [.int t_thrown, .ref a_t_now, .ref a_t_kept, .int t_isKept, .ref a_t_text, .int t_length, .ref a_t_passing, .int t_at_r44, .int t_fault_r45, .int (t_open_r42 - (nI 1)), .int t_asked, .int t_byGun, .int t_prizeMost, .ref a_t_order, .ref a_t_times, .int t_listed])), (a_t_text, .inl (cB, 200, .inl t_text))] H := hP
      have hD : va_D A [(a_t_now, .inl (cI, 1562, .inl t_now)), (a_t, .inr (11, [.int t_thrown, .ref a_t_now, .ref a_t_kept, .int t_isKept, .ref a_t_text, .int t_length, .ref a_t_passing, .int t_at_r44, .int t_fault_r45, .int (t_open_r42 - (nI 1)), .int t_asked, .int t_byGun, .int t_prizeMost, .ref a_t_order, .ref a_t_times, .int t_listed])), (a_t_text, .inl (cB, 200, .inl t_text))] := hD
      refine lv_iload_n hx hb dX11_unit_67 rfl (lv_at hl 0 rfl) ?_
      obtain ⟨j0_, g_⟩ := Prod.mk.inj (Option.some.inj h)
      obtain ⟨j1_, g_⟩ := Prod.mk.inj g_
      obtain ⟨j2_, g_⟩ := Prod.mk.inj g_
      have j3_ := g_
      subst j0_
      subst j1_
      subst j2_
      subst j3_
      exact W.zret (v := (zb b39)) hx hb hr zz_n (fun t ht hW => ⟨⟨_, (), rfl, rfl, zPost.of hP hD hK ht hW [1, 0, 2] rfl rfl rfl⟩, hS.F ht⟩) hS.2.2 dX11_unit_68
    · have h := zz_t h c38
      refine lv_aload_n hx hb dX11_unit_20 rfl (lv_at hl 1 rfl) ?_
      obtain ⟨t_fault_r47, e48, h⟩ := zz_b h
      refine zVv (As := []) (rest := []) (C := RX11) (wr := [(a_t_now, .inl (cI, 1562, .inl t_now)), (a_t_text, .inl (cB, 200, .inl t_text))]) [1] [0, 2] 0 ⟨hx, hb, hml, hown, hts⟩ (mX11_wrong l D cB cI cZ a_t a_t_now a_t_kept a_t_text a_t_passing a_t_order a_t_times t_thrown t_isKept t_length t_at_r2 t_fault t_open t_asked t_byGun t_prizeMost t_listed H.size t_fault_r47 e48) (cwV 0 hts gX11_unit_X11_wrong rfl rfl rfl (by decide +kernel) ⟨Nat.le_of_ble_eq_true rfl, Nat.le_of_ble_eq_true rfl⟩) hK hN hZ hP hD hS hA rfl rfl rfl rfl rfl rfl rfl rfl hl.1 rfl (lv_room (Nat.le_of_ble_eq_true rfl)) dX11_unit_21 ⟨Nat.le_of_ble_eq_true rfl, Nat.le_of_ble_eq_true rfl⟩ (fun H locs hP hD hS => ?_)
      have hP : va_P D vwCl [(a_t_now, .inl (cI, 1562, .inl t_now)), (a_t_text, .inl (cB, 200, .inl t_text)), (a_t, .inr (11, [.int t_thrown, .ref a_t_now, .ref a_t_kept, .int t_isKept, .ref a_t_text, .int t_length, .ref a_t_passing, .int t_at_r2, .int t_fault_r47, .int t_open, .int t_asked, .int t_byGun, .int t_prizeMost, .ref a_t_order, .ref a_t_times, .int t_listed]))] H := hP
      have hD : va_D A [(a_t_now, .inl (cI, 1562, .inl t_now)), (a_t_text, .inl (cB, 200, .inl t_text)), (a_t, .inr (11, [.int t_thrown, .ref a_t_now, .ref a_t_kept, .int t_isKept, .ref a_t_text, .int t_length, .ref a_t_passing, .int t_at_r2, .int t_fault_r47, .int t_open, .int t_asked, .int t_byGun, .int t_prizeMost, .ref a_t_order, .ref a_t_times, .int t_listed]))] := hD
      refine lv_iconst (v := (nI 0)) hx hb dX11_unit_24 rfl ?_
      obtain ⟨j0_, g_⟩ := Prod.mk.inj (Option.some.inj h)
      obtain ⟨j1_, g_⟩ := Prod.mk.inj g_
      obtain ⟨j2_, g_⟩ := Prod.mk.inj g_
      have j3_ := g_
      subst j0_
      subst j1_
      subst j2_
      subst j3_
      exact W.zret (v := (nI 0)) hx hb hr rfl (fun t ht hW => ⟨⟨_, (), rfl, rfl, zPost.of hP hD hK ht hW [2, 0, 1] rfl rfl rfl⟩, hS.F ht⟩) hS.2.2 dX11_unit_25
set_option maxHeartbeats 4000000 in
set_option maxRecDepth 100000 in
theorem mX11_part_6 (l : Launch) (D : va_G) (cB cI cZ : ClassId) (a_t : Nat) (a_t_now : Nat) (a_t_kept : Nat) (a_t_text : Nat) (a_t_passing : Nat) (a_t_order : Nat) (a_t_times : Nat) (t_thrown : Int32) (t_isKept : Int32) (t_length : Int32) (t_at : Int32) (t_fault : Int32) (t_open : Int32) (t_asked : Int32) (t_byGun : Int32) (t_prizeMost : Int32) (t_listed : Int32) (t_now : Nat → Int32) (t_text : Nat → Int32) (sz : Nat) (N : Nat) (T : Int32 → Int32 → Int32 → Int32 → Int32 → (Nat → Int32) → (Nat → Int32) → Option (Bool × Int32 × Int32 × Int32)) (hT : T = fX11_testsD N 6) (b0 : Bool) (t_at' : Int32) (t_fault' : Int32) (t_open' : Int32) (h : fX11_part T N t_asked t_at t_fault t_length t_open t_now t_text = some (b0, t_at', t_fault', t_open')) : Met l yX11_part wsX11_part ({ frames := 21, cells := 0, slots := 0, locals := 481 } : Room) (va_Pc [.ref a_t] (zPre D (zT cB cI cZ) [(a_t, .inr (11, [.int t_thrown, .ref a_t_now, .ref a_t_kept, .int t_isKept, .ref a_t_text, .int t_length, .ref a_t_passing, .int t_at, .int t_fault, .int t_open, .int t_asked, .int t_byGun, .int t_prizeMost, .ref a_t_order, .ref a_t_times, .int t_listed])), (a_t_now, .inl (cI, 1562, .inl t_now)), (a_t_text, .inl (cB, 200, .inl t_text))] sz)) (zQi (zb b0) D (zT cB cI cZ) [(a_t, .inr (11, [.int t_thrown, .ref a_t_now, .ref a_t_kept, .int t_isKept, .ref a_t_text, .int t_length, .ref a_t_passing, .int t_at', .int t_fault', .int t_open', .int t_asked, .int t_byGun, .int t_prizeMost, .ref a_t_order, .ref a_t_times, .int t_listed])), (a_t_now, .inl (cI, 1562, .inl t_now)), (a_t_text, .inl (cB, 200, .inl t_text))] (va_A [(a_t, .inr (11, [.int t_thrown, .ref a_t_now, .ref a_t_kept, .int t_isKept, .ref a_t_text, .int t_length, .ref a_t_passing, .int t_at, .int t_fault, .int t_open, .int t_asked, .int t_byGun, .int t_prizeMost, .ref a_t_order, .ref a_t_times, .int t_listed])), (a_t_now, .inl (cI, 1562, .inl t_now)), (a_t_text, .inl (cB, 200, .inl t_text))] sz)) 0 0 (va_A [(a_t, .inr (11, [.int t_thrown, .ref a_t_now, .ref a_t_kept, .int t_isKept, .ref a_t_text, .int t_length, .ref a_t_passing, .int t_at, .int t_fault, .int t_open, .int t_asked, .int t_byGun, .int t_prizeMost, .ref a_t_order, .ref a_t_times, .int t_listed])), (a_t_now, .inl (cI, 1562, .inl t_now)), (a_t_text, .inl (cB, 200, .inl t_text))] sz) := by
  refine Met.ofW (cc := cX11_part) (maxL := 3) (ret := (some .boolean)) (by decide) rfl ?_
  intro p e s m args below meth c s₁ B hml hv
  obtain ⟨rfl, hsz, hP, hK, hN, hZ, hD0⟩ := hv
  have hx := B.exec
  have hb := B.bytes
  have hr := B.returns
  have hts := atoms_spec (ws := wsX11_part) B.pre
  have hown : s.vm.findClass RX11 = some m.cls := findClass_of_methodNamed B.named
  have hlocks := B.notSynchronized
  subst hsz
  have hD := hD0.self (sz := s.heap.size)
  generalize hAe : va_A [(a_t, .inr (11, [.int t_thrown, .ref a_t_now, .ref a_t_kept, .int t_isKept, .ref a_t_text, .int t_length, .ref a_t_passing, .int t_at, .int t_fault, .int t_open, .int t_asked, .int t_byGun, .int t_prizeMost, .ref a_t_order, .ref a_t_times, .int t_listed])), (a_t_now, .inl (cI, 1562, .inl t_now)), (a_t_text, .inl (cB, 200, .inl t_text))] s.heap.size = A at hD hZ ⊢
  have hA : ∀ q : Nat, s.heap.size ≤ q → A q := fun q h => by rw [← hAe]; exact Or.inr h
  have hS : va_S A s.heap s.heap [] := va_S.rf
  have hl := lv_entry ([.ref a_t]) (n := 3) (Nat.le_of_ble_eq_true rfl)
  rw [lg_entry_eq]
  generalize (lg_sl ([.ref a_t]) ++ List.replicate (3 - (lg_sl ([.ref a_t])).length) Slot.unset).toArray = ls at hl ⊢
  have hl : lv_has ls 3 [(0, .ref a_t)] := hl
  unfold fX11_part at h
  refine lv_aload_n hx hb dX11_part_0 rfl (lv_at hl 0 rfl) ?_
  obtain ⟨⟨b1, t_at_r2, t_fault_r3, t_open_r4⟩, e5, h⟩ := zz_b h
  dsimp only at h
  refine zVi (As := []) (rest := []) (C := RX11) (wr := []) [0, 1, 2] [] 0 ⟨hx, hb, hml, hown, hts⟩ (mX11_unit_6 l D cB cI cZ a_t a_t_now a_t_kept a_t_text a_t_passing a_t_order a_t_times t_thrown t_isKept t_length t_at t_fault t_open t_asked t_byGun t_prizeMost t_listed t_now t_text s.heap.size N T hT b1 t_at_r2 t_fault_r3 t_open_r4 e5) (cwV 0 hts gX11_part_X11_unit rfl rfl rfl (by decide +kernel) ⟨Nat.le_of_ble_eq_true rfl, Nat.le_of_ble_eq_true rfl⟩) hK hN hZ hP hD hS hA rfl rfl rfl rfl rfl rfl rfl rfl hl.1 rfl (lv_room (Nat.le_of_ble_eq_true rfl)) dX11_part_1 ⟨Nat.le_of_ble_eq_true rfl, Nat.le_of_ble_eq_true rfl⟩ (fun H locs hP hD hS => ?_)
  have hP : va_P D vwCl [(a_t, .inr (11, [.int t_thrown, .ref a_t_now, .ref a_t_kept, .int t_isKept, .ref a_t_text, .int t_length, .ref a_t_passing, .int t_at_r2, .int t_fault_r3, .int t_open_r4, .int t_asked, .int t_byGun, .int t_prizeMost, .ref a_t_order, .ref a_t_times, .int t_listed])), (a_t_now, .inl (cI, 1562, .inl t_now)), (a_t_text, .inl (cB, 200, .inl t_text))] H := hP
  have hD : va_D A [(a_t, .inr (11, [.int t_thrown, .ref a_t_now, .ref a_t_kept, .int t_isKept, .ref a_t_text, .int t_length, .ref a_t_passing, .int t_at_r2, .int t_fault_r3, .int t_open_r4, .int t_asked, .int t_byGun, .int t_prizeMost, .ref a_t_order, .ref a_t_times, .int t_listed])), (a_t_now, .inl (cI, 1562, .inl t_now)), (a_t_text, .inl (cB, 200, .inl t_text))] := hD
  refine lv_istore_n (lv' := [(1, .int (zb b1)), (0, .ref a_t)]) hx hb dX11_part_4 rfl hl (by decide) rfl (fun ls hl => ?_)
  have X5_53 : ∀ (v1_5 : Bool) (t_at_l5 : Int32) (t_fault_l5 : Int32) (t_open_l5 : Int32) (H : Heap) (locs : List Loc) (ls : Array Slot), some (v1_5, t_at_l5, t_fault_l5, t_open_l5) = some (b0, t_at', t_fault', t_open') → va_P D vwCl [(a_t, .inr (11, [.int t_thrown, .ref a_t_now, .ref a_t_kept, .int t_isKept, .ref a_t_text, .int t_length, .ref a_t_passing, .int t_at_l5, .int t_fault_l5, .int t_open_l5, .int t_asked, .int t_byGun, .int t_prizeMost, .ref a_t_order, .ref a_t_times, .int t_listed])), (a_t_now, .inl (cI, 1562, .inl t_now)), (a_t_text, .inl (cB, 200, .inl t_text))] H → va_D A [(a_t, .inr (11, [.int t_thrown, .ref a_t_now, .ref a_t_kept, .int t_isKept, .ref a_t_text, .int t_length, .ref a_t_passing, .int t_at_l5, .int t_fault_l5, .int t_open_l5, .int t_asked, .int t_byGun, .int t_prizeMost, .ref a_t_order, .ref a_t_times, .int t_listed])), (a_t_now, .inl (cI, 1562, .inl t_now)), (a_t_text, .inl (cB, 200, .inl t_text))] → va_S A s.heap H locs → lv_has ls 3 [(1, .int (zb v1_5)), (0, .ref a_t)] → W p l e (headSpec wsX11_part ({ frames := 21, cells := 0, slots := 0, locals := 481 } : Room)).room s m #[Value.ref a_t] below meth c H locs 0 0 (MQ below (zQi (zb b0) D (zT cB cI cZ) [(a_t, .inr (11, [.int t_thrown, .ref a_t_now, .ref a_t_kept, .int t_isKept, .ref a_t_text, .int t_length, .ref a_t_passing, .int t_at', .int t_fault', .int t_open', .int t_asked, .int t_byGun, .int t_prizeMost, .ref a_t_order, .ref a_t_times, .int t_listed])), (a_t_now, .inl (cI, 1562, .inl t_now)), (a_t_text, .inl (cB, 200, .inl t_text))] A) #[Value.ref a_t] s 0 0 A) (F0 m 53 ls []) := by
    intro v1_5 t_at_l5 t_fault_l5 t_open_l5 H locs ls h hP hD hS hl
    refine lv_iload_n hx hb dX11_part_53 rfl (lv_at hl 0 rfl) ?_
    obtain ⟨j0_, g_⟩ := Prod.mk.inj (Option.some.inj h)
    obtain ⟨j1_, g_⟩ := Prod.mk.inj g_
    obtain ⟨j2_, g_⟩ := Prod.mk.inj g_
    have j3_ := g_
    subst j0_
    subst j1_
    subst j2_
    subst j3_
    exact W.zret (v := (zb v1_5)) hx hb hr zz_n (fun t ht hW => ⟨⟨_, (), rfl, rfl, zPost.of hP hD hK ht hW [0, 1, 2] rfl rfl rfl⟩, hS.F ht⟩) hS.2.2 dX11_part_54
  have L5 : ∀ (n : Nat) (v1_5 : Bool) (t_at_l5 : Int32) (t_fault_l5 : Int32) (t_open_l5 : Int32) (H : Heap) (locs : List Loc) (ls : Array Slot), fX11_part_L5 N T t_length t_asked t_now t_text (fun (v1_5 : Bool) (t_at_l5 : Int32) (t_fault_l5 : Int32) (t_open_l5 : Int32) => some (v1_5, t_at_l5, t_fault_l5, t_open_l5)) n v1_5 t_at_l5 t_fault_l5 t_open_l5 = some (b0, t_at', t_fault', t_open') → va_P D vwCl [(a_t, .inr (11, [.int t_thrown, .ref a_t_now, .ref a_t_kept, .int t_isKept, .ref a_t_text, .int t_length, .ref a_t_passing, .int t_at_l5, .int t_fault_l5, .int t_open_l5, .int t_asked, .int t_byGun, .int t_prizeMost, .ref a_t_order, .ref a_t_times, .int t_listed])), (a_t_now, .inl (cI, 1562, .inl t_now)), (a_t_text, .inl (cB, 200, .inl t_text))] H → va_D A [(a_t, .inr (11, [.int t_thrown, .ref a_t_now, .ref a_t_kept, .int t_isKept, .ref a_t_text, .int t_length, .ref a_t_passing, .int t_at_l5, .int t_fault_l5, .int t_open_l5, .int t_asked, .int t_byGun, .int t_prizeMost, .ref a_t_order, .ref a_t_times, .int t_listed])), (a_t_now, .inl (cI, 1562, .inl t_now)), (a_t_text, .inl (cB, 200, .inl t_text))] → va_S A s.heap H locs → lv_has ls 3 [(1, .int (zb v1_5)), (0, .ref a_t)] → W p l e (headSpec wsX11_part ({ frames := 21, cells := 0, slots := 0, locals := 481 } : Room)).room s m #[Value.ref a_t] below meth c H locs 0 0 (MQ below (zQi (zb b0) D (zT cB cI cZ) [(a_t, .inr (11, [.int t_thrown, .ref a_t_now, .ref a_t_kept, .int t_isKept, .ref a_t_text, .int t_length, .ref a_t_passing, .int t_at', .int t_fault', .int t_open', .int t_asked, .int t_byGun, .int t_prizeMost, .ref a_t_order, .ref a_t_times, .int t_listed])), (a_t_now, .inl (cI, 1562, .inl t_now)), (a_t_text, .inl (cB, 200, .inl t_text))] A) #[Value.ref a_t] s 0 0 A) (F0 m 5 ls []) := by
    intro n
    induction n with
    | zero => intro _ _ _ _ H locs ls h hP hD hS hl; cases h
    | succ n5 ih5 =>
      intro v1_5 t_at_l5 t_fault_l5 t_open_l5 H locs ls h hP hD hS hl
      rw [fX11_part_L5.eq_2] at h
      refine lv_aload_n hx hb dX11_part_5 rfl (lv_at hl 1 rfl) ?_
      obtain ⟨b6, e7, h⟩ := zz_b h
      refine zVi (As := []) (rest := []) (C := RX11) (wr := [(a_t_now, .inl (cI, 1562, .inl t_now)), (a_t_text, .inl (cB, 200, .inl t_text))]) [0] [1, 2] 0 ⟨hx, hb, hml, hown, hts⟩ (mX11_isFine l D cB cI cZ a_t a_t_now a_t_kept a_t_text a_t_passing a_t_order a_t_times t_thrown t_isKept t_length t_at_l5 t_fault_l5 t_open_l5 t_asked t_byGun t_prizeMost t_listed H.size b6 e7) (cwV 0 hts gX11_part_X11_isFine rfl rfl rfl (by decide +kernel) ⟨Nat.le_of_ble_eq_true rfl, Nat.le_of_ble_eq_true rfl⟩) hK hN hZ hP hD hS hA rfl rfl rfl rfl rfl rfl rfl rfl hl.1 rfl (lv_room (Nat.le_of_ble_eq_true rfl)) dX11_part_6 ⟨Nat.le_of_ble_eq_true rfl, Nat.le_of_ble_eq_true rfl⟩ (fun H locs hP hD hS => ?_)
      have hP : va_P D vwCl [(a_t_now, .inl (cI, 1562, .inl t_now)), (a_t_text, .inl (cB, 200, .inl t_text)), (a_t, .inr (11, [.int t_thrown, .ref a_t_now, .ref a_t_kept, .int t_isKept, .ref a_t_text, .int t_length, .ref a_t_passing, .int t_at_l5, .int t_fault_l5, .int t_open_l5, .int t_asked, .int t_byGun, .int t_prizeMost, .ref a_t_order, .ref a_t_times, .int t_listed]))] H := hP
      have hD : va_D A [(a_t_now, .inl (cI, 1562, .inl t_now)), (a_t_text, .inl (cB, 200, .inl t_text)), (a_t, .inr (11, [.int t_thrown, .ref a_t_now, .ref a_t_kept, .int t_isKept, .ref a_t_text, .int t_length, .ref a_t_passing, .int t_at_l5, .int t_fault_l5, .int t_open_l5, .int t_asked, .int t_byGun, .int t_prizeMost, .ref a_t_order, .ref a_t_times, .int t_listed]))] := hD
      refine lv_if_eq (tgt := 53) hx hb dX11_part_9 (by decide) (fun c8 => ?_) (fun c8 => ?_)
      · have h := zz_t h c8
        exact X5_53 v1_5 t_at_l5 t_fault_l5 t_open_l5 _ _ _ h (hP.sub [2, 0, 1] rfl) (hD.sub [2, 0, 1] rfl rfl) hS (lv_sub hl [0, 1] rfl)
      · have h := zz_f h c8
        refine lv_aload_n hx hb dX11_part_12 rfl (lv_at hl 1 rfl) ?_
        obtain ⟨⟨r9, t_at_r10⟩, e11, h⟩ := zz_b h
        dsimp only at h
        refine zVi (As := []) (rest := []) (C := RX11) (wr := [(a_t_now, .inl (cI, 1562, .inl t_now))]) [2, 1] [0] 0 ⟨hx, hb, hml, hown, hts⟩ (mX11_look l D cB cI cZ a_t a_t_now a_t_kept a_t_text a_t_passing a_t_order a_t_times t_thrown t_isKept t_length t_at_l5 t_fault_l5 t_open_l5 t_asked t_byGun t_prizeMost t_listed t_text H.size N r9 t_at_r10 e11) (cwV 0 hts gX11_part_X11_look rfl rfl rfl (by decide +kernel) ⟨Nat.le_of_ble_eq_true rfl, Nat.le_of_ble_eq_true rfl⟩) hK hN hZ hP hD hS hA rfl rfl rfl rfl rfl rfl rfl rfl hl.1 rfl (lv_room (Nat.le_of_ble_eq_true rfl)) dX11_part_13 ⟨Nat.le_of_ble_eq_true rfl, Nat.le_of_ble_eq_true rfl⟩ (fun H locs hP hD hS => ?_)
        have hP : va_P D vwCl [(a_t_now, .inl (cI, 1562, .inl t_now)), (a_t, .inr (11, [.int t_thrown, .ref a_t_now, .ref a_t_kept, .int t_isKept, .ref a_t_text, .int t_length, .ref a_t_passing, .int t_at_r10, .int t_fault_l5, .int t_open_l5, .int t_asked, .int t_byGun, .int t_prizeMost, .ref a_t_order, .ref a_t_times, .int t_listed])), (a_t_text, .inl (cB, 200, .inl t_text))] H := hP
        have hD : va_D A [(a_t_now, .inl (cI, 1562, .inl t_now)), (a_t, .inr (11, [.int t_thrown, .ref a_t_now, .ref a_t_kept, .int t_isKept, .ref a_t_text, .int t_length, .ref a_t_passing, .int t_at_r10, .int t_fault_l5, .int t_open_l5, .int t_asked, .int t_byGun, .int t_prizeMost, .ref a_t_order, .ref a_t_times, .int t_listed])), (a_t_text, .inl (cB, 200, .inl t_text))] := hD
        refine lv_bipush (v := (nI 38)) hx hb dX11_part_16 rfl ?_
        refine lv_icmp_ne (tgt := 53) hx hb dX11_part_18 (by decide) (fun c12 => ?_) (fun c12 => ?_)
        · have h := zz_f h c12
          exact X5_53 v1_5 t_at_r10 t_fault_l5 t_open_l5 _ _ _ h (hP.sub [1, 0, 2] rfl) (hD.sub [1, 0, 2] rfl rfl) hS (lv_sub hl [0, 1] rfl)
        · have h := zz_t h c12
          refine lv_aload_n hx hb dX11_part_21 rfl (lv_at hl 1 rfl) ?_
          refine lv_dup hx hb dX11_part_22 rfl ?_
          refine va_get (D := D) (ci := 11) (C := RX11) (T := TX11) (N := 16) hx hb hts qX11_part_X11 hown hK hP 1 rfl rfl 7 (by decide) (hts _ kX11_part_0) (fun _ h9 => h9) rfl dX11_part_23 ?_
          refine lv_iconst (v := (nI 1)) hx hb dX11_part_26 rfl ?_
          refine lv_iadd hx hb dX11_part_27 ?_
          refine va_put (D := D) (ci := 11) (ty := .int) (C := RX11) (T := TX11) (N := 16) hx hb hts qX11_part_X11 tyX11 tyX11_ok nmX11 hown hK hP hD hS 1 rfl rfl 7 (by decide) (hts _ kX11_part_0) (fun _ h9 => h9) rfl (by decide +kernel) rfl (by first | rfl | exact zz_fit) (Nat.le_of_ble_eq_true rfl) dX11_part_28 (fun H locs hP hD hS => ?_)
          have hP : va_P D vwCl [(a_t_now, .inl (cI, 1562, .inl t_now)), (a_t, .inr (11, [.int t_thrown, .ref a_t_now, .ref a_t_kept, .int t_isKept, .ref a_t_text, .int t_length, .ref a_t_passing, .int (t_at_r10 + (nI 1)), .int t_fault_l5, .int t_open_l5, .int t_asked, .int t_byGun, .int t_prizeMost, .ref a_t_order, .ref a_t_times, .int t_listed])), (a_t_text, .inl (cB, 200, .inl t_text))] H := hP
          have hD : va_D A [(a_t_now, .inl (cI, 1562, .inl t_now)), (a_t, .inr (11, [.int t_thrown, .ref a_t_now, .ref a_t_kept, .int t_isKept, .ref a_t_text, .int t_length, .ref a_t_passing, .int (t_at_r10 + (nI 1)), .int t_fault_l5, .int t_open_l5, .int t_asked, .int t_byGun, .int t_prizeMost, .ref a_t_order, .ref a_t_times, .int t_listed])), (a_t_text, .inl (cB, 200, .inl t_text))] := hD
          refine lv_aload_n hx hb dX11_part_31 rfl (lv_at hl 1 rfl) ?_
          obtain ⟨⟨b13, t_at_r14, t_fault_r15, t_open_r16⟩, e17, h⟩ := zz_b h
          dsimp only at h
          refine zVi (As := []) (rest := []) (C := RX11) (wr := []) [1, 0, 2] [] 0 ⟨hx, hb, hml, hown, hts⟩ (mX11_unit_6 l D cB cI cZ a_t a_t_now a_t_kept a_t_text a_t_passing a_t_order a_t_times t_thrown t_isKept t_length (t_at_r10 + (nI 1)) t_fault_l5 t_open_l5 t_asked t_byGun t_prizeMost t_listed t_now t_text H.size N T hT b13 t_at_r14 t_fault_r15 t_open_r16 e17) (cwV 0 hts gX11_part_X11_unit rfl rfl rfl (by decide +kernel) ⟨Nat.le_of_ble_eq_true rfl, Nat.le_of_ble_eq_true rfl⟩) hK hN hZ hP hD hS hA rfl rfl rfl rfl rfl rfl rfl rfl hl.1 rfl (lv_room (Nat.le_of_ble_eq_true rfl)) dX11_part_32 ⟨Nat.le_of_ble_eq_true rfl, Nat.le_of_ble_eq_true rfl⟩ (fun H locs hP hD hS => ?_)
          have hP : va_P D vwCl [(a_t, .inr (11, [.int t_thrown, .ref a_t_now, .ref a_t_kept, .int t_isKept, .ref a_t_text, .int t_length, .ref a_t_passing, .int t_at_r14, .int t_fault_r15, .int t_open_r16, .int t_asked, .int t_byGun, .int t_prizeMost, .ref a_t_order, .ref a_t_times, .int t_listed])), (a_t_now, .inl (cI, 1562, .inl t_now)), (a_t_text, .inl (cB, 200, .inl t_text))] H := hP
          have hD : va_D A [(a_t, .inr (11, [.int t_thrown, .ref a_t_now, .ref a_t_kept, .int t_isKept, .ref a_t_text, .int t_length, .ref a_t_passing, .int t_at_r14, .int t_fault_r15, .int t_open_r16, .int t_asked, .int t_byGun, .int t_prizeMost, .ref a_t_order, .ref a_t_times, .int t_listed])), (a_t_now, .inl (cI, 1562, .inl t_now)), (a_t_text, .inl (cB, 200, .inl t_text))] := hD
          refine lv_istore_n (lv' := [(2, .int (zb b13)), (1, .int (zb v1_5)), (0, .ref a_t)]) hx hb dX11_part_35 rfl hl (by decide) rfl (fun ls hl => ?_)
          refine lv_iload_n hx hb dX11_part_36 rfl (lv_at hl 1 rfl) ?_
          refine lv_if_eq (tgt := 48) hx hb dX11_part_37 (by decide) (fun c18 => ?_) (fun c18 => ?_)
          · have h := zz_t h c18
            refine lv_iconst (v := (nI 0)) hx hb dX11_part_48 rfl ?_
            refine lv_istore_n (lv' := [(1, .int (nI 0)), (2, .int (zb b13)), (0, .ref a_t)]) hx hb dX11_part_49 rfl hl (by decide) rfl (fun ls hl => ?_)
            refine lv_goto (tgt := 5) hx hb dX11_part_50 (by decide) ?_
            exact ih5 false t_at_r14 t_fault_r15 t_open_r16 _ _ _ h (hP.sub [0, 1, 2] rfl) (hD.sub [0, 1, 2] rfl rfl) hS (lv_sub hl [0, 2] rfl)
          · have h := zz_f h c18
            refine lv_iload_n hx hb dX11_part_40 rfl (lv_at hl 0 rfl) ?_
            refine lv_if_eq (tgt := 48) hx hb dX11_part_41 (by decide) (fun c19 => ?_) (fun c19 => ?_)
            · have h := zz_t h c19
              refine lv_iconst (v := (nI 0)) hx hb dX11_part_48 rfl ?_
              refine lv_istore_n (lv' := [(1, .int (nI 0)), (2, .int (zb b13)), (0, .ref a_t)]) hx hb dX11_part_49 rfl hl (by decide) rfl (fun ls hl => ?_)
              refine lv_goto (tgt := 5) hx hb dX11_part_50 (by decide) ?_
              exact ih5 false t_at_r14 t_fault_r15 t_open_r16 _ _ _ h (hP.sub [0, 1, 2] rfl) (hD.sub [0, 1, 2] rfl rfl) hS (lv_sub hl [0, 2] rfl)
            · have h := zz_f h c19
              refine lv_iconst (v := (nI 1)) hx hb dX11_part_44 rfl ?_
              refine lv_goto (tgt := 49) hx hb dX11_part_45 (by decide) ?_
              refine lv_istore_n (lv' := [(1, .int (nI 1)), (2, .int (zb b13)), (0, .ref a_t)]) hx hb dX11_part_49 rfl hl (by decide) rfl (fun ls hl => ?_)
              refine lv_goto (tgt := 5) hx hb dX11_part_50 (by decide) ?_
              exact ih5 true t_at_r14 t_fault_r15 t_open_r16 _ _ _ h (hP.sub [0, 1, 2] rfl) (hD.sub [0, 1, 2] rfl rfl) hS (lv_sub hl [0, 2] rfl)
  exact L5 N b1 t_at_r2 t_fault_r3 t_open_r4 _ _ _ h hP hD hS hl
set_option maxHeartbeats 4000000 in
set_option maxRecDepth 100000 in
theorem mX11_tests_6 (l : Launch) (D : va_G) (cB cI cZ : ClassId) (a_t : Nat) (a_t_now : Nat) (a_t_kept : Nat) (a_t_text : Nat) (a_t_passing : Nat) (a_t_order : Nat) (a_t_times : Nat) (t_thrown : Int32) (t_isKept : Int32) (t_length : Int32) (t_at : Int32) (t_fault : Int32) (t_open : Int32) (t_asked : Int32) (t_byGun : Int32) (t_prizeMost : Int32) (t_listed : Int32) (t_now : Nat → Int32) (t_text : Nat → Int32) (sz : Nat) (N : Nat) (b0 : Bool) (t_at' : Int32) (t_fault' : Int32) (t_open' : Int32) (h : fX11_testsD N 7 t_asked t_at t_fault t_length t_open t_now t_text = some (b0, t_at', t_fault', t_open')) : Met l yX11_tests wsX11_tests ({ frames := 22, cells := 0, slots := 0, locals := 503 } : Room) (va_Pc [.ref a_t] (zPre D (zT cB cI cZ) [(a_t, .inr (11, [.int t_thrown, .ref a_t_now, .ref a_t_kept, .int t_isKept, .ref a_t_text, .int t_length, .ref a_t_passing, .int t_at, .int t_fault, .int t_open, .int t_asked, .int t_byGun, .int t_prizeMost, .ref a_t_order, .ref a_t_times, .int t_listed])), (a_t_now, .inl (cI, 1562, .inl t_now)), (a_t_text, .inl (cB, 200, .inl t_text))] sz)) (zQi (zb b0) D (zT cB cI cZ) [(a_t, .inr (11, [.int t_thrown, .ref a_t_now, .ref a_t_kept, .int t_isKept, .ref a_t_text, .int t_length, .ref a_t_passing, .int t_at', .int t_fault', .int t_open', .int t_asked, .int t_byGun, .int t_prizeMost, .ref a_t_order, .ref a_t_times, .int t_listed])), (a_t_now, .inl (cI, 1562, .inl t_now)), (a_t_text, .inl (cB, 200, .inl t_text))] (va_A [(a_t, .inr (11, [.int t_thrown, .ref a_t_now, .ref a_t_kept, .int t_isKept, .ref a_t_text, .int t_length, .ref a_t_passing, .int t_at, .int t_fault, .int t_open, .int t_asked, .int t_byGun, .int t_prizeMost, .ref a_t_order, .ref a_t_times, .int t_listed])), (a_t_now, .inl (cI, 1562, .inl t_now)), (a_t_text, .inl (cB, 200, .inl t_text))] sz)) 0 0 (va_A [(a_t, .inr (11, [.int t_thrown, .ref a_t_now, .ref a_t_kept, .int t_isKept, .ref a_t_text, .int t_length, .ref a_t_passing, .int t_at, .int t_fault, .int t_open, .int t_asked, .int t_byGun, .int t_prizeMost, .ref a_t_order, .ref a_t_times, .int t_listed])), (a_t_now, .inl (cI, 1562, .inl t_now)), (a_t_text, .inl (cB, 200, .inl t_text))] sz) := by
  refine Met.ofW (cc := cX11_tests) (maxL := 3) (ret := (some .boolean)) (by decide) rfl ?_
  intro p e s m args below meth c s₁ B hml hv
  obtain ⟨rfl, hsz, hP, hK, hN, hZ, hD0⟩ := hv
  have hx := B.exec
  have hb := B.bytes
  have hr := B.returns
  have hts := atoms_spec (ws := wsX11_tests) B.pre
  have hown : s.vm.findClass RX11 = some m.cls := findClass_of_methodNamed B.named
  have hlocks := B.notSynchronized
  subst hsz
  have hD := hD0.self (sz := s.heap.size)
  generalize hAe : va_A [(a_t, .inr (11, [.int t_thrown, .ref a_t_now, .ref a_t_kept, .int t_isKept, .ref a_t_text, .int t_length, .ref a_t_passing, .int t_at, .int t_fault, .int t_open, .int t_asked, .int t_byGun, .int t_prizeMost, .ref a_t_order, .ref a_t_times, .int t_listed])), (a_t_now, .inl (cI, 1562, .inl t_now)), (a_t_text, .inl (cB, 200, .inl t_text))] s.heap.size = A at hD hZ ⊢
  have hA : ∀ q : Nat, s.heap.size ≤ q → A q := fun q h => by rw [← hAe]; exact Or.inr h
  have hS : va_S A s.heap s.heap [] := va_S.rf
  have hl := lv_entry ([.ref a_t]) (n := 3) (Nat.le_of_ble_eq_true rfl)
  rw [lg_entry_eq]
  generalize (lg_sl ([.ref a_t]) ++ List.replicate (3 - (lg_sl ([.ref a_t])).length) Slot.unset).toArray = ls at hl ⊢
  have hl : lv_has ls 3 [(0, .ref a_t)] := hl
  obtain ⟨T, hT⟩ : ∃ T, T = fX11_testsD N 6 := ⟨_, rfl⟩; have h : fX11_tests_ T N t_asked t_at t_fault t_length t_open t_now t_text = some (b0, t_at', t_fault', t_open') := by rw [hT]; exact h
  unfold fX11_tests_ at h
  refine lv_aload_n hx hb dX11_tests_0 rfl (lv_at hl 0 rfl) ?_
  obtain ⟨⟨b1, t_at_r2, t_fault_r3, t_open_r4⟩, e5, h⟩ := zz_b h
  dsimp only at h
  refine zVi (As := []) (rest := []) (C := RX11) (wr := []) [0, 1, 2] [] 0 ⟨hx, hb, hml, hown, hts⟩ (mX11_part_6 l D cB cI cZ a_t a_t_now a_t_kept a_t_text a_t_passing a_t_order a_t_times t_thrown t_isKept t_length t_at t_fault t_open t_asked t_byGun t_prizeMost t_listed t_now t_text s.heap.size N T hT b1 t_at_r2 t_fault_r3 t_open_r4 e5) (cwV 0 hts gX11_tests_X11_part rfl rfl rfl (by decide +kernel) ⟨Nat.le_of_ble_eq_true rfl, Nat.le_of_ble_eq_true rfl⟩) hK hN hZ hP hD hS hA rfl rfl rfl rfl rfl rfl rfl rfl hl.1 rfl (lv_room (Nat.le_of_ble_eq_true rfl)) dX11_tests_1 ⟨Nat.le_of_ble_eq_true rfl, Nat.le_of_ble_eq_true rfl⟩ (fun H locs hP hD hS => ?_)
  have hP : va_P D vwCl [(a_t, .inr (11, [.int t_thrown, .ref a_t_now, .ref a_t_kept, .int t_isKept, .ref a_t_text, .int t_length, .ref a_t_passing, .int t_at_r2, .int t_fault_r3, .int t_open_r4, .int t_asked, .int t_byGun, .int t_prizeMost, .ref a_t_order, .ref a_t_times, .int t_listed])), (a_t_now, .inl (cI, 1562, .inl t_now)), (a_t_text, .inl (cB, 200, .inl t_text))] H := hP
  have hD : va_D A [(a_t, .inr (11, [.int t_thrown, .ref a_t_now, .ref a_t_kept, .int t_isKept, .ref a_t_text, .int t_length, .ref a_t_passing, .int t_at_r2, .int t_fault_r3, .int t_open_r4, .int t_asked, .int t_byGun, .int t_prizeMost, .ref a_t_order, .ref a_t_times, .int t_listed])), (a_t_now, .inl (cI, 1562, .inl t_now)), (a_t_text, .inl (cB, 200, .inl t_text))] := hD
  refine lv_istore_n (lv' := [(1, .int (zb b1)), (0, .ref a_t)]) hx hb dX11_tests_4 rfl hl (by decide) rfl (fun ls hl => ?_)
  have X5_53 : ∀ (v1_5 : Bool) (t_at_l5 : Int32) (t_fault_l5 : Int32) (t_open_l5 : Int32) (H : Heap) (locs : List Loc) (ls : Array Slot), some (v1_5, t_at_l5, t_fault_l5, t_open_l5) = some (b0, t_at', t_fault', t_open') → va_P D vwCl [(a_t, .inr (11, [.int t_thrown, .ref a_t_now, .ref a_t_kept, .int t_isKept, .ref a_t_text, .int t_length, .ref a_t_passing, .int t_at_l5, .int t_fault_l5, .int t_open_l5, .int t_asked, .int t_byGun, .int t_prizeMost, .ref a_t_order, .ref a_t_times, .int t_listed])), (a_t_now, .inl (cI, 1562, .inl t_now)), (a_t_text, .inl (cB, 200, .inl t_text))] H → va_D A [(a_t, .inr (11, [.int t_thrown, .ref a_t_now, .ref a_t_kept, .int t_isKept, .ref a_t_text, .int t_length, .ref a_t_passing, .int t_at_l5, .int t_fault_l5, .int t_open_l5, .int t_asked, .int t_byGun, .int t_prizeMost, .ref a_t_order, .ref a_t_times, .int t_listed])), (a_t_now, .inl (cI, 1562, .inl t_now)), (a_t_text, .inl (cB, 200, .inl t_text))] → va_S A s.heap H locs → lv_has ls 3 [(1, .int (zb v1_5)), (0, .ref a_t)] → W p l e (headSpec wsX11_tests ({ frames := 22, cells := 0, slots := 0, locals := 503 } : Room)).room s m #[Value.ref a_t] below meth c H locs 0 0 (MQ below (zQi (zb b0) D (zT cB cI cZ) [(a_t, .inr (11, [.int t_thrown, .ref a_t_now, .ref a_t_kept, .int t_isKept, .ref a_t_text, .int t_length, .ref a_t_passing, .int t_at', .int t_fault', .int t_open', .int t_asked, .int t_byGun, .int t_prizeMost, .ref a_t_order, .ref a_t_times, .int t_listed])), (a_t_now, .inl (cI, 1562, .inl t_now)), (a_t_text, .inl (cB, 200, .inl t_text))] A) #[Value.ref a_t] s 0 0 A) (F0 m 53 ls []) := by
    intro v1_5 t_at_l5 t_fault_l5 t_open_l5 H locs ls h hP hD hS hl
    refine lv_iload_n hx hb dX11_tests_53 rfl (lv_at hl 0 rfl) ?_
    obtain ⟨j0_, g_⟩ := Prod.mk.inj (Option.some.inj h)
    obtain ⟨j1_, g_⟩ := Prod.mk.inj g_
    obtain ⟨j2_, g_⟩ := Prod.mk.inj g_
    have j3_ := g_
    subst j0_
    subst j1_
    subst j2_
    subst j3_
    exact W.zret (v := (zb v1_5)) hx hb hr zz_n (fun t ht hW => ⟨⟨_, (), rfl, rfl, zPost.of hP hD hK ht hW [0, 1, 2] rfl rfl rfl⟩, hS.F ht⟩) hS.2.2 dX11_tests_54
  have L5 : ∀ (n : Nat) (v1_5 : Bool) (t_at_l5 : Int32) (t_fault_l5 : Int32) (t_open_l5 : Int32) (H : Heap) (locs : List Loc) (ls : Array Slot), fX11_tests_L5 N T t_length t_asked t_now t_text (fun (v1_5 : Bool) (t_at_l5 : Int32) (t_fault_l5 : Int32) (t_open_l5 : Int32) => some (v1_5, t_at_l5, t_fault_l5, t_open_l5)) n v1_5 t_at_l5 t_fault_l5 t_open_l5 = some (b0, t_at', t_fault', t_open') → va_P D vwCl [(a_t, .inr (11, [.int t_thrown, .ref a_t_now, .ref a_t_kept, .int t_isKept, .ref a_t_text, .int t_length, .ref a_t_passing, .int t_at_l5, .int t_fault_l5, .int t_open_l5, .int t_asked, .int t_byGun, .int t_prizeMost, .ref a_t_order, .ref a_t_times, .int t_listed])), (a_t_now, .inl (cI, 1562, .inl t_now)), (a_t_text, .inl (cB, 200, .inl t_text))] H → va_D A [(a_t, .inr (11, [.int t_thrown, .ref a_t_now, .ref a_t_kept, .int t_isKept, .ref a_t_text, .int t_length, .ref a_t_passing, .int t_at_l5, .int t_fault_l5, .int t_open_l5, .int t_asked, .int t_byGun, .int t_prizeMost, .ref a_t_order, .ref a_t_times, .int t_listed])), (a_t_now, .inl (cI, 1562, .inl t_now)), (a_t_text, .inl (cB, 200, .inl t_text))] → va_S A s.heap H locs → lv_has ls 3 [(1, .int (zb v1_5)), (0, .ref a_t)] → W p l e (headSpec wsX11_tests ({ frames := 22, cells := 0, slots := 0, locals := 503 } : Room)).room s m #[Value.ref a_t] below meth c H locs 0 0 (MQ below (zQi (zb b0) D (zT cB cI cZ) [(a_t, .inr (11, [.int t_thrown, .ref a_t_now, .ref a_t_kept, .int t_isKept, .ref a_t_text, .int t_length, .ref a_t_passing, .int t_at', .int t_fault', .int t_open', .int t_asked, .int t_byGun, .int t_prizeMost, .ref a_t_order, .ref a_t_times, .int t_listed])), (a_t_now, .inl (cI, 1562, .inl t_now)), (a_t_text, .inl (cB, 200, .inl t_text))] A) #[Value.ref a_t] s 0 0 A) (F0 m 5 ls []) := by
    intro n
    induction n with
    | zero => intro _ _ _ _ H locs ls h hP hD hS hl; cases h
    | succ n5 ih5 =>
      intro v1_5 t_at_l5 t_fault_l5 t_open_l5 H locs ls h hP hD hS hl
      rw [fX11_tests_L5.eq_2] at h
      refine lv_aload_n hx hb dX11_tests_5 rfl (lv_at hl 1 rfl) ?_
      obtain ⟨b6, e7, h⟩ := zz_b h
      refine zVi (As := []) (rest := []) (C := RX11) (wr := [(a_t_now, .inl (cI, 1562, .inl t_now)), (a_t_text, .inl (cB, 200, .inl t_text))]) [0] [1, 2] 0 ⟨hx, hb, hml, hown, hts⟩ (mX11_isFine l D cB cI cZ a_t a_t_now a_t_kept a_t_text a_t_passing a_t_order a_t_times t_thrown t_isKept t_length t_at_l5 t_fault_l5 t_open_l5 t_asked t_byGun t_prizeMost t_listed H.size b6 e7) (cwV 0 hts gX11_tests_X11_isFine rfl rfl rfl (by decide +kernel) ⟨Nat.le_of_ble_eq_true rfl, Nat.le_of_ble_eq_true rfl⟩) hK hN hZ hP hD hS hA rfl rfl rfl rfl rfl rfl rfl rfl hl.1 rfl (lv_room (Nat.le_of_ble_eq_true rfl)) dX11_tests_6 ⟨Nat.le_of_ble_eq_true rfl, Nat.le_of_ble_eq_true rfl⟩ (fun H locs hP hD hS => ?_)
      have hP : va_P D vwCl [(a_t_now, .inl (cI, 1562, .inl t_now)), (a_t_text, .inl (cB, 200, .inl t_text)), (a_t, .inr (11, [.int t_thrown, .ref a_t_now, .ref a_t_kept, .int t_isKept, .ref a_t_text, .int t_length, .ref a_t_passing, .int t_at_l5, .int t_fault_l5, .int t_open_l5, .int t_asked, .int t_byGun, .int t_prizeMost, .ref a_t_order, .ref a_t_times, .int t_listed]))] H := hP
      have hD : va_D A [(a_t_now, .inl (cI, 1562, .inl t_now)), (a_t_text, .inl (cB, 200, .inl t_text)), (a_t, .inr (11, [.int t_thrown, .ref a_t_now, .ref a_t_kept, .int t_isKept, .ref a_t_text, .int t_length, .ref a_t_passing, .int t_at_l5, .int t_fault_l5, .int t_open_l5, .int t_asked, .int t_byGun, .int t_prizeMost, .ref a_t_order, .ref a_t_times, .int t_listed]))] := hD
      refine lv_if_eq (tgt := 53) hx hb dX11_tests_9 (by decide) (fun c8 => ?_) (fun c8 => ?_)
      · have h := zz_t h c8
        exact X5_53 v1_5 t_at_l5 t_fault_l5 t_open_l5 _ _ _ h (hP.sub [2, 0, 1] rfl) (hD.sub [2, 0, 1] rfl rfl) hS (lv_sub hl [0, 1] rfl)
      · have h := zz_f h c8
        refine lv_aload_n hx hb dX11_tests_12 rfl (lv_at hl 1 rfl) ?_
        obtain ⟨⟨r9, t_at_r10⟩, e11, h⟩ := zz_b h
        dsimp only at h
        refine zVi (As := []) (rest := []) (C := RX11) (wr := [(a_t_now, .inl (cI, 1562, .inl t_now))]) [2, 1] [0] 0 ⟨hx, hb, hml, hown, hts⟩ (mX11_look l D cB cI cZ a_t a_t_now a_t_kept a_t_text a_t_passing a_t_order a_t_times t_thrown t_isKept t_length t_at_l5 t_fault_l5 t_open_l5 t_asked t_byGun t_prizeMost t_listed t_text H.size N r9 t_at_r10 e11) (cwV 0 hts gX11_tests_X11_look rfl rfl rfl (by decide +kernel) ⟨Nat.le_of_ble_eq_true rfl, Nat.le_of_ble_eq_true rfl⟩) hK hN hZ hP hD hS hA rfl rfl rfl rfl rfl rfl rfl rfl hl.1 rfl (lv_room (Nat.le_of_ble_eq_true rfl)) dX11_tests_13 ⟨Nat.le_of_ble_eq_true rfl, Nat.le_of_ble_eq_true rfl⟩ (fun H locs hP hD hS => ?_)
        have hP : va_P D vwCl [(a_t_now, .inl (cI, 1562, .inl t_now)), (a_t, .inr (11, [.int t_thrown, .ref a_t_now, .ref a_t_kept, .int t_isKept, .ref a_t_text, .int t_length, .ref a_t_passing, .int t_at_r10, .int t_fault_l5, .int t_open_l5, .int t_asked, .int t_byGun, .int t_prizeMost, .ref a_t_order, .ref a_t_times, .int t_listed])), (a_t_text, .inl (cB, 200, .inl t_text))] H := hP
        have hD : va_D A [(a_t_now, .inl (cI, 1562, .inl t_now)), (a_t, .inr (11, [.int t_thrown, .ref a_t_now, .ref a_t_kept, .int t_isKept, .ref a_t_text, .int t_length, .ref a_t_passing, .int t_at_r10, .int t_fault_l5, .int t_open_l5, .int t_asked, .int t_byGun, .int t_prizeMost, .ref a_t_order, .ref a_t_times, .int t_listed])), (a_t_text, .inl (cB, 200, .inl t_text))] := hD
        refine lv_bipush (v := (nI 124)) hx hb dX11_tests_16 rfl ?_
        refine lv_icmp_ne (tgt := 53) hx hb dX11_tests_18 (by decide) (fun c12 => ?_) (fun c12 => ?_)
        · have h := zz_f h c12
          exact X5_53 v1_5 t_at_r10 t_fault_l5 t_open_l5 _ _ _ h (hP.sub [1, 0, 2] rfl) (hD.sub [1, 0, 2] rfl rfl) hS (lv_sub hl [0, 1] rfl)
        · have h := zz_t h c12
          refine lv_aload_n hx hb dX11_tests_21 rfl (lv_at hl 1 rfl) ?_
          refine lv_dup hx hb dX11_tests_22 rfl ?_
          refine va_get (D := D) (ci := 11) (C := RX11) (T := TX11) (N := 16) hx hb hts qX11_tests_X11 hown hK hP 1 rfl rfl 7 (by decide) (hts _ kX11_tests_0) (fun _ h9 => h9) rfl dX11_tests_23 ?_
          refine lv_iconst (v := (nI 1)) hx hb dX11_tests_26 rfl ?_
          refine lv_iadd hx hb dX11_tests_27 ?_
          refine va_put (D := D) (ci := 11) (ty := .int) (C := RX11) (T := TX11) (N := 16) hx hb hts qX11_tests_X11 tyX11 tyX11_ok nmX11 hown hK hP hD hS 1 rfl rfl 7 (by decide) (hts _ kX11_tests_0) (fun _ h9 => h9) rfl (by decide +kernel) rfl (by first | rfl | exact zz_fit) (Nat.le_of_ble_eq_true rfl) dX11_tests_28 (fun H locs hP hD hS => ?_)
          have hP : va_P D vwCl [(a_t_now, .inl (cI, 1562, .inl t_now)), (a_t, .inr (11, [.int t_thrown, .ref a_t_now, .ref a_t_kept, .int t_isKept, .ref a_t_text, .int t_length, .ref a_t_passing, .int (t_at_r10 + (nI 1)), .int t_fault_l5, .int t_open_l5, .int t_asked, .int t_byGun, .int t_prizeMost, .ref a_t_order, .ref a_t_times, .int t_listed])), (a_t_text, .inl (cB, 200, .inl t_text))] H := hP
          have hD : va_D A [(a_t_now, .inl (cI, 1562, .inl t_now)), (a_t, .inr (11, [.int t_thrown, .ref a_t_now, .ref a_t_kept, .int t_isKept, .ref a_t_text, .int t_length, .ref a_t_passing, .int (t_at_r10 + (nI 1)), .int t_fault_l5, .int t_open_l5, .int t_asked, .int t_byGun, .int t_prizeMost, .ref a_t_order, .ref a_t_times, .int t_listed])), (a_t_text, .inl (cB, 200, .inl t_text))] := hD
          refine lv_aload_n hx hb dX11_tests_31 rfl (lv_at hl 1 rfl) ?_
          obtain ⟨⟨b13, t_at_r14, t_fault_r15, t_open_r16⟩, e17, h⟩ := zz_b h
          dsimp only at h
          refine zVi (As := []) (rest := []) (C := RX11) (wr := []) [1, 0, 2] [] 0 ⟨hx, hb, hml, hown, hts⟩ (mX11_part_6 l D cB cI cZ a_t a_t_now a_t_kept a_t_text a_t_passing a_t_order a_t_times t_thrown t_isKept t_length (t_at_r10 + (nI 1)) t_fault_l5 t_open_l5 t_asked t_byGun t_prizeMost t_listed t_now t_text H.size N T hT b13 t_at_r14 t_fault_r15 t_open_r16 e17) (cwV 0 hts gX11_tests_X11_part rfl rfl rfl (by decide +kernel) ⟨Nat.le_of_ble_eq_true rfl, Nat.le_of_ble_eq_true rfl⟩) hK hN hZ hP hD hS hA rfl rfl rfl rfl rfl rfl rfl rfl hl.1 rfl (lv_room (Nat.le_of_ble_eq_true rfl)) dX11_tests_32 ⟨Nat.le_of_ble_eq_true rfl, Nat.le_of_ble_eq_true rfl⟩ (fun H locs hP hD hS => ?_)
          have hP : va_P D vwCl [(a_t, .inr (11, [.int t_thrown, .ref a_t_now, .ref a_t_kept, .int t_isKept, .ref a_t_text, .int t_length, .ref a_t_passing, .int t_at_r14, .int t_fault_r15, .int t_open_r16, .int t_asked, .int t_byGun, .int t_prizeMost, .ref a_t_order, .ref a_t_times, .int t_listed])), (a_t_now, .inl (cI, 1562, .inl t_now)), (a_t_text, .inl (cB, 200, .inl t_text))] H := hP
          have hD : va_D A [(a_t, .inr (11, [.int t_thrown, .ref a_t_now, .ref a_t_kept, .int t_isKept, .ref a_t_text, .int t_length, .ref a_t_passing, .int t_at_r14, .int t_fault_r15, .int t_open_r16, .int t_asked, .int t_byGun, .int t_prizeMost, .ref a_t_order, .ref a_t_times, .int t_listed])), (a_t_now, .inl (cI, 1562, .inl t_now)), (a_t_text, .inl (cB, 200, .inl t_text))] := hD
          refine lv_istore_n (lv' := [(2, .int (zb b13)), (1, .int (zb v1_5)), (0, .ref a_t)]) hx hb dX11_tests_35 rfl hl (by decide) rfl (fun ls hl => ?_)
          refine lv_iload_n hx hb dX11_tests_36 rfl (lv_at hl 1 rfl) ?_
          refine lv_if_ne (tgt := 44) hx hb dX11_tests_37 (by decide) (fun c18 => ?_) (fun c18 => ?_)
          · have h := zz_f h c18
            refine lv_iconst (v := (nI 1)) hx hb dX11_tests_44 rfl ?_
            refine lv_goto (tgt := 49) hx hb dX11_tests_45 (by decide) ?_
            refine lv_istore_n (lv' := [(1, .int (nI 1)), (2, .int (zb b13)), (0, .ref a_t)]) hx hb dX11_tests_49 rfl hl (by decide) rfl (fun ls hl => ?_)
            refine lv_goto (tgt := 5) hx hb dX11_tests_50 (by decide) ?_
            exact ih5 true t_at_r14 t_fault_r15 t_open_r16 _ _ _ h (hP.sub [0, 1, 2] rfl) (hD.sub [0, 1, 2] rfl rfl) hS (lv_sub hl [0, 2] rfl)
          · have h := zz_t h c18
            refine lv_iload_n hx hb dX11_tests_40 rfl (lv_at hl 0 rfl) ?_
            refine lv_if_eq (tgt := 48) hx hb dX11_tests_41 (by decide) (fun c19 => ?_) (fun c19 => ?_)
            · have h := zz_t h c19
              refine lv_iconst (v := (nI 0)) hx hb dX11_tests_48 rfl ?_
              refine lv_istore_n (lv' := [(1, .int (nI 0)), (2, .int (zb b13)), (0, .ref a_t)]) hx hb dX11_tests_49 rfl hl (by decide) rfl (fun ls hl => ?_)
              refine lv_goto (tgt := 5) hx hb dX11_tests_50 (by decide) ?_
              exact ih5 false t_at_r14 t_fault_r15 t_open_r16 _ _ _ h (hP.sub [0, 1, 2] rfl) (hD.sub [0, 1, 2] rfl rfl) hS (lv_sub hl [0, 2] rfl)
            · have h := zz_f h c19
              refine lv_iconst (v := (nI 1)) hx hb dX11_tests_44 rfl ?_
              refine lv_goto (tgt := 49) hx hb dX11_tests_45 (by decide) ?_
              refine lv_istore_n (lv' := [(1, .int (nI 1)), (2, .int (zb b13)), (0, .ref a_t)]) hx hb dX11_tests_49 rfl hl (by decide) rfl (fun ls hl => ?_)
              refine lv_goto (tgt := 5) hx hb dX11_tests_50 (by decide) ?_
              exact ih5 true t_at_r14 t_fault_r15 t_open_r16 _ _ _ h (hP.sub [0, 1, 2] rfl) (hD.sub [0, 1, 2] rfl rfl) hS (lv_sub hl [0, 2] rfl)
  exact L5 N b1 t_at_r2 t_fault_r3 t_open_r4 _ _ _ h hP hD hS hl
set_option maxHeartbeats 4000000 in
set_option maxRecDepth 100000 in
theorem mX11_unit_7 (l : Launch) (D : va_G) (cB cI cZ : ClassId) (a_t : Nat) (a_t_now : Nat) (a_t_kept : Nat) (a_t_text : Nat) (a_t_passing : Nat) (a_t_order : Nat) (a_t_times : Nat) (t_thrown : Int32) (t_isKept : Int32) (t_length : Int32) (t_at : Int32) (t_fault : Int32) (t_open : Int32) (t_asked : Int32) (t_byGun : Int32) (t_prizeMost : Int32) (t_listed : Int32) (t_now : Nat → Int32) (t_text : Nat → Int32) (sz : Nat) (N : Nat) (T : Int32 → Int32 → Int32 → Int32 → Int32 → (Nat → Int32) → (Nat → Int32) → Option (Bool × Int32 × Int32 × Int32)) (hT : T = fX11_testsD N 7) (b0 : Bool) (t_at' : Int32) (t_fault' : Int32) (t_open' : Int32) (h : fX11_unit T N t_asked t_at t_fault t_length t_open t_now t_text = some (b0, t_at', t_fault', t_open')) : Met l yX11_unit wsX11_unit ({ frames := 23, cells := 0, slots := 0, locals := 525 } : Room) (va_Pc [.ref a_t] (zPre D (zT cB cI cZ) [(a_t, .inr (11, [.int t_thrown, .ref a_t_now, .ref a_t_kept, .int t_isKept, .ref a_t_text, .int t_length, .ref a_t_passing, .int t_at, .int t_fault, .int t_open, .int t_asked, .int t_byGun, .int t_prizeMost, .ref a_t_order, .ref a_t_times, .int t_listed])), (a_t_now, .inl (cI, 1562, .inl t_now)), (a_t_text, .inl (cB, 200, .inl t_text))] sz)) (zQi (zb b0) D (zT cB cI cZ) [(a_t, .inr (11, [.int t_thrown, .ref a_t_now, .ref a_t_kept, .int t_isKept, .ref a_t_text, .int t_length, .ref a_t_passing, .int t_at', .int t_fault', .int t_open', .int t_asked, .int t_byGun, .int t_prizeMost, .ref a_t_order, .ref a_t_times, .int t_listed])), (a_t_now, .inl (cI, 1562, .inl t_now)), (a_t_text, .inl (cB, 200, .inl t_text))] (va_A [(a_t, .inr (11, [.int t_thrown, .ref a_t_now, .ref a_t_kept, .int t_isKept, .ref a_t_text, .int t_length, .ref a_t_passing, .int t_at, .int t_fault, .int t_open, .int t_asked, .int t_byGun, .int t_prizeMost, .ref a_t_order, .ref a_t_times, .int t_listed])), (a_t_now, .inl (cI, 1562, .inl t_now)), (a_t_text, .inl (cB, 200, .inl t_text))] sz)) 0 0 (va_A [(a_t, .inr (11, [.int t_thrown, .ref a_t_now, .ref a_t_kept, .int t_isKept, .ref a_t_text, .int t_length, .ref a_t_passing, .int t_at, .int t_fault, .int t_open, .int t_asked, .int t_byGun, .int t_prizeMost, .ref a_t_order, .ref a_t_times, .int t_listed])), (a_t_now, .inl (cI, 1562, .inl t_now)), (a_t_text, .inl (cB, 200, .inl t_text))] sz) := by
  refine Met.ofW (cc := cX11_unit) (maxL := 6) (ret := (some .boolean)) (by decide) rfl ?_
  intro p e s m args below meth c s₁ B hml hv
  obtain ⟨rfl, hsz, hP, hK, hN, hZ, hD0⟩ := hv
  have hx := B.exec
  have hb := B.bytes
  have hr := B.returns
  have hts := atoms_spec (ws := wsX11_unit) B.pre
  have hown : s.vm.findClass RX11 = some m.cls := findClass_of_methodNamed B.named
  have hlocks := B.notSynchronized
  subst hsz
  have hD := hD0.self (sz := s.heap.size)
  generalize hAe : va_A [(a_t, .inr (11, [.int t_thrown, .ref a_t_now, .ref a_t_kept, .int t_isKept, .ref a_t_text, .int t_length, .ref a_t_passing, .int t_at, .int t_fault, .int t_open, .int t_asked, .int t_byGun, .int t_prizeMost, .ref a_t_order, .ref a_t_times, .int t_listed])), (a_t_now, .inl (cI, 1562, .inl t_now)), (a_t_text, .inl (cB, 200, .inl t_text))] s.heap.size = A at hD hZ ⊢
  have hA : ∀ q : Nat, s.heap.size ≤ q → A q := fun q h => by rw [← hAe]; exact Or.inr h
  have hS : va_S A s.heap s.heap [] := va_S.rf
  have hl := lv_entry ([.ref a_t]) (n := 6) (Nat.le_of_ble_eq_true rfl)
  rw [lg_entry_eq]
  generalize (lg_sl ([.ref a_t]) ++ List.replicate (6 - (lg_sl ([.ref a_t])).length) Slot.unset).toArray = ls at hl ⊢
  have hl : lv_has ls 6 [(0, .ref a_t)] := hl
  unfold fX11_unit at h
  refine lv_aload_n hx hb dX11_unit_0 rfl (lv_at hl 0 rfl) ?_
  obtain ⟨⟨r1, t_at_r2⟩, e3, h⟩ := zz_b h
  dsimp only at h
  refine zVi (As := []) (rest := []) (C := RX11) (wr := [(a_t_now, .inl (cI, 1562, .inl t_now))]) [0, 2] [1] 0 ⟨hx, hb, hml, hown, hts⟩ (mX11_look l D cB cI cZ a_t a_t_now a_t_kept a_t_text a_t_passing a_t_order a_t_times t_thrown t_isKept t_length t_at t_fault t_open t_asked t_byGun t_prizeMost t_listed t_text s.heap.size N r1 t_at_r2 e3) (cwV 0 hts gX11_unit_X11_look rfl rfl rfl (by decide +kernel) ⟨Nat.le_of_ble_eq_true rfl, Nat.le_of_ble_eq_true rfl⟩) hK hN hZ hP hD hS hA rfl rfl rfl rfl rfl rfl rfl rfl hl.1 rfl (lv_room (Nat.le_of_ble_eq_true rfl)) dX11_unit_1 ⟨Nat.le_of_ble_eq_true rfl, Nat.le_of_ble_eq_true rfl⟩ (fun H locs hP hD hS => ?_)
  have hP : va_P D vwCl [(a_t_now, .inl (cI, 1562, .inl t_now)), (a_t, .inr (11, [.int t_thrown, .ref a_t_now, .ref a_t_kept, .int t_isKept, .ref a_t_text, .int t_length, .ref a_t_passing, .int t_at_r2, .int t_fault, .int t_open, .int t_asked, .int t_byGun, .int t_prizeMost, .ref a_t_order, .ref a_t_times, .int t_listed])), (a_t_text, .inl (cB, 200, .inl t_text))] H := hP
  have hD : va_D A [(a_t_now, .inl (cI, 1562, .inl t_now)), (a_t, .inr (11, [.int t_thrown, .ref a_t_now, .ref a_t_kept, .int t_isKept, .ref a_t_text, .int t_length, .ref a_t_passing, .int t_at_r2, .int t_fault, .int t_open, .int t_asked, .int t_byGun, .int t_prizeMost, .ref a_t_order, .ref a_t_times, .int t_listed])), (a_t_text, .inl (cB, 200, .inl t_text))] := hD
  refine lv_istore_n (lv' := [(1, .int r1), (0, .ref a_t)]) hx hb dX11_unit_4 rfl hl (by decide) rfl (fun ls hl => ?_)
  refine lv_iload_n hx hb dX11_unit_5 rfl (lv_at hl 0 rfl) ?_
  refine lv_bipush (v := (nI 40)) hx hb dX11_unit_6 rfl ?_
  refine lv_icmp_ne (tgt := 69) hx hb dX11_unit_8 (by decide) (fun c4 => ?_) (fun c4 => ?_)
  · have h := zz_f h c4
    refine lv_iload_n hx hb dX11_unit_69 rfl (lv_at hl 0 rfl) ?_
    refine lv_bipush (v := (nI 115)) hx hb dX11_unit_70 rfl ?_
    have J120 : ∀ (s0_j120 : Int32) (H : Heap) (locs : List Loc) (ls : Array Slot), fX11_unit_J120 N t_length t_fault t_open t_asked t_now t_text t_at_r2 s0_j120 = some (b0, t_at', t_fault', t_open') → va_P D vwCl [(a_t_now, .inl (cI, 1562, .inl t_now)), (a_t, .inr (11, [.int t_thrown, .ref a_t_now, .ref a_t_kept, .int t_isKept, .ref a_t_text, .int t_length, .ref a_t_passing, .int t_at_r2, .int t_fault, .int t_open, .int t_asked, .int t_byGun, .int t_prizeMost, .ref a_t_order, .ref a_t_times, .int t_listed])), (a_t_text, .inl (cB, 200, .inl t_text))] H → va_D A [(a_t_now, .inl (cI, 1562, .inl t_now)), (a_t, .inr (11, [.int t_thrown, .ref a_t_now, .ref a_t_kept, .int t_isKept, .ref a_t_text, .int t_length, .ref a_t_passing, .int t_at_r2, .int t_fault, .int t_open, .int t_asked, .int t_byGun, .int t_prizeMost, .ref a_t_order, .ref a_t_times, .int t_listed])), (a_t_text, .inl (cB, 200, .inl t_text))] → va_S A s.heap H locs → lv_has ls 6 [(1, .int r1), (0, .ref a_t)] → W p l e (headSpec wsX11_unit ({ frames := 23, cells := 0, slots := 0, locals := 525 } : Room)).room s m #[Value.ref a_t] below meth c H locs 0 0 (MQ below (zQi (zb b0) D (zT cB cI cZ) [(a_t, .inr (11, [.int t_thrown, .ref a_t_now, .ref a_t_kept, .int t_isKept, .ref a_t_text, .int t_length, .ref a_t_passing, .int t_at', .int t_fault', .int t_open', .int t_asked, .int t_byGun, .int t_prizeMost, .ref a_t_order, .ref a_t_times, .int t_listed])), (a_t_now, .inl (cI, 1562, .inl t_now)), (a_t_text, .inl (cB, 200, .inl t_text))] A) #[Value.ref a_t] s 0 0 A) (F0 m 120 ls [.int s0_j120]) := by
      intro s0_j120 H locs ls h hP hD hS hl
      unfold fX11_unit_J120 at h
      refine lv_istore_n (lv' := [(2, .int s0_j120), (1, .int r1), (0, .ref a_t)]) hx hb dX11_unit_120 rfl hl (by decide) rfl (fun ls hl => ?_)
      refine lv_iload_n hx hb dX11_unit_121 rfl (lv_at hl 0 rfl) ?_
      refine lv_iconst (v := (-1 : Int32)) hx hb dX11_unit_122 rfl ?_
      refine lv_icmp_ne (tgt := 132) hx hb dX11_unit_123 (by decide) (fun c5 => ?_) (fun c5 => ?_)
      · have h := zz_f h c5
        refine lv_aload_n hx hb dX11_unit_132 rfl (lv_at hl 2 rfl) ?_
        refine lv_dup hx hb dX11_unit_133 rfl ?_
        refine va_get (D := D) (ci := 11) (C := RX11) (T := TX11) (N := 16) hx hb hts qX11_unit_X11 hown hK hP 1 rfl rfl 7 (by decide) (hts _ kX11_unit_0) (fun _ h9 => h9) rfl dX11_unit_134 ?_
        refine lv_iconst (v := (nI 1)) hx hb dX11_unit_137 rfl ?_
        refine lv_iadd hx hb dX11_unit_138 ?_
        refine va_put (D := D) (ci := 11) (ty := .int) (C := RX11) (T := TX11) (N := 16) hx hb hts qX11_unit_X11 tyX11 tyX11_ok nmX11 hown hK hP hD hS 1 rfl rfl 7 (by decide) (hts _ kX11_unit_0) (fun _ h9 => h9) rfl (by decide +kernel) rfl (by first | rfl | exact zz_fit) (Nat.le_of_ble_eq_true rfl) dX11_unit_139 (fun H locs hP hD hS => ?_)
        have hP : va_P D vwCl [(a_t_now, .inl (cI, 1562, .inl t_now)), (a_t, .inr (11, [.int t_thrown, .ref a_t_now, .ref a_t_kept, .int t_isKept, .ref a_t_text, .int t_length, .ref a_t_passing, .int (t_at_r2 + (nI 1)), .int t_fault, .int t_open, .int t_asked, .int t_byGun, .int t_prizeMost, .ref a_t_order, .ref a_t_times, .int t_listed])), (a_t_text, .inl (cB, 200, .inl t_text))] H := hP
        have hD : va_D A [(a_t_now, .inl (cI, 1562, .inl t_now)), (a_t, .inr (11, [.int t_thrown, .ref a_t_now, .ref a_t_kept, .int t_isKept, .ref a_t_text, .int t_length, .ref a_t_passing, .int (t_at_r2 + (nI 1)), .int t_fault, .int t_open, .int t_asked, .int t_byGun, .int t_prizeMost, .ref a_t_order, .ref a_t_times, .int t_listed])), (a_t_text, .inl (cB, 200, .inl t_text))] := hD
        refine lv_aload_n hx hb dX11_unit_142 rfl (lv_at hl 2 rfl) ?_
        obtain ⟨⟨r6, t_at_r7⟩, e8, h⟩ := zz_b h
        dsimp only at h
        refine zVi (As := []) (rest := []) (C := RX11) (wr := [(a_t_now, .inl (cI, 1562, .inl t_now))]) [1, 2] [0] 0 ⟨hx, hb, hml, hown, hts⟩ (mX11_look l D cB cI cZ a_t a_t_now a_t_kept a_t_text a_t_passing a_t_order a_t_times t_thrown t_isKept t_length (t_at_r2 + (nI 1)) t_fault t_open t_asked t_byGun t_prizeMost t_listed t_text H.size N r6 t_at_r7 e8) (cwV 0 hts gX11_unit_X11_look rfl rfl rfl (by decide +kernel) ⟨Nat.le_of_ble_eq_true rfl, Nat.le_of_ble_eq_true rfl⟩) hK hN hZ hP hD hS hA rfl rfl rfl rfl rfl rfl rfl rfl hl.1 rfl (lv_room (Nat.le_of_ble_eq_true rfl)) dX11_unit_143 ⟨Nat.le_of_ble_eq_true rfl, Nat.le_of_ble_eq_true rfl⟩ (fun H locs hP hD hS => ?_)
        have hP : va_P D vwCl [(a_t_now, .inl (cI, 1562, .inl t_now)), (a_t, .inr (11, [.int t_thrown, .ref a_t_now, .ref a_t_kept, .int t_isKept, .ref a_t_text, .int t_length, .ref a_t_passing, .int t_at_r7, .int t_fault, .int t_open, .int t_asked, .int t_byGun, .int t_prizeMost, .ref a_t_order, .ref a_t_times, .int t_listed])), (a_t_text, .inl (cB, 200, .inl t_text))] H := hP
        have hD : va_D A [(a_t_now, .inl (cI, 1562, .inl t_now)), (a_t, .inr (11, [.int t_thrown, .ref a_t_now, .ref a_t_kept, .int t_isKept, .ref a_t_text, .int t_length, .ref a_t_passing, .int t_at_r7, .int t_fault, .int t_open, .int t_asked, .int t_byGun, .int t_prizeMost, .ref a_t_order, .ref a_t_times, .int t_listed])), (a_t_text, .inl (cB, 200, .inl t_text))] := hD
        refine lv_istore_n (lv' := [(3, .int r6), (2, .int s0_j120), (1, .int r1), (0, .ref a_t)]) hx hb dX11_unit_146 rfl hl (by decide) rfl (fun ls hl => ?_)
        refine lv_iload_n hx hb dX11_unit_147 rfl (lv_at hl 0 rfl) ?_
        refine lv_bipush (v := (nI 61)) hx hb dX11_unit_148 rfl ?_
        have J171 : ∀ (H : Heap) (locs : List Loc) (ls : Array Slot), fX11_unit_J171 N t_length t_fault t_open t_asked t_now t_text s0_j120 r6 t_at_r7 = some (b0, t_at', t_fault', t_open') → va_P D vwCl [(a_t_now, .inl (cI, 1562, .inl t_now)), (a_t, .inr (11, [.int t_thrown, .ref a_t_now, .ref a_t_kept, .int t_isKept, .ref a_t_text, .int t_length, .ref a_t_passing, .int t_at_r7, .int t_fault, .int t_open, .int t_asked, .int t_byGun, .int t_prizeMost, .ref a_t_order, .ref a_t_times, .int t_listed])), (a_t_text, .inl (cB, 200, .inl t_text))] H → va_D A [(a_t_now, .inl (cI, 1562, .inl t_now)), (a_t, .inr (11, [.int t_thrown, .ref a_t_now, .ref a_t_kept, .int t_isKept, .ref a_t_text, .int t_length, .ref a_t_passing, .int t_at_r7, .int t_fault, .int t_open, .int t_asked, .int t_byGun, .int t_prizeMost, .ref a_t_order, .ref a_t_times, .int t_listed])), (a_t_text, .inl (cB, 200, .inl t_text))] → va_S A s.heap H locs → lv_has ls 6 [(3, .int r6), (2, .int s0_j120), (1, .int r1), (0, .ref a_t)] → W p l e (headSpec wsX11_unit ({ frames := 23, cells := 0, slots := 0, locals := 525 } : Room)).room s m #[Value.ref a_t] below meth c H locs 0 0 (MQ below (zQi (zb b0) D (zT cB cI cZ) [(a_t, .inr (11, [.int t_thrown, .ref a_t_now, .ref a_t_kept, .int t_isKept, .ref a_t_text, .int t_length, .ref a_t_passing, .int t_at', .int t_fault', .int t_open', .int t_asked, .int t_byGun, .int t_prizeMost, .ref a_t_order, .ref a_t_times, .int t_listed])), (a_t_now, .inl (cI, 1562, .inl t_now)), (a_t_text, .inl (cB, 200, .inl t_text))] A) #[Value.ref a_t] s 0 0 A) (F0 m 171 ls []) := by
          intro  H locs ls h hP hD hS hl
          unfold fX11_unit_J171 at h
          refine lv_aload_n hx hb dX11_unit_171 rfl (lv_at hl 3 rfl) ?_
          refine lv_dup hx hb dX11_unit_172 rfl ?_
          refine va_get (D := D) (ci := 11) (C := RX11) (T := TX11) (N := 16) hx hb hts qX11_unit_X11 hown hK hP 1 rfl rfl 7 (by decide) (hts _ kX11_unit_0) (fun _ h9 => h9) rfl dX11_unit_173 ?_
          refine lv_iconst (v := (nI 1)) hx hb dX11_unit_176 rfl ?_
          refine lv_iadd hx hb dX11_unit_177 ?_
          refine va_put (D := D) (ci := 11) (ty := .int) (C := RX11) (T := TX11) (N := 16) hx hb hts qX11_unit_X11 tyX11 tyX11_ok nmX11 hown hK hP hD hS 1 rfl rfl 7 (by decide) (hts _ kX11_unit_0) (fun _ h9 => h9) rfl (by decide +kernel) rfl (by first | rfl | exact zz_fit) (Nat.le_of_ble_eq_true rfl) dX11_unit_178 (fun H locs hP hD hS => ?_)
          have hP : va_P D vwCl [(a_t_now, .inl (cI, 1562, .inl t_now)), (a_t, .inr (11, [.int t_thrown, .ref a_t_now, .ref a_t_kept, .int t_isKept, .ref a_t_text, .int t_length, .ref a_t_passing, .int (t_at_r7 + (nI 1)), .int t_fault, .int t_open, .int t_asked, .int t_byGun, .int t_prizeMost, .ref a_t_order, .ref a_t_times, .int t_listed])), (a_t_text, .inl (cB, 200, .inl t_text))] H := hP
          have hD : va_D A [(a_t_now, .inl (cI, 1562, .inl t_now)), (a_t, .inr (11, [.int t_thrown, .ref a_t_now, .ref a_t_kept, .int t_isKept, .ref a_t_text, .int t_length, .ref a_t_passing, .int (t_at_r7 + (nI 1)), .int t_fault, .int t_open, .int t_asked, .int t_byGun, .int t_prizeMost, .ref a_t_order, .ref a_t_times, .int t_listed])), (a_t_text, .inl (cB, 200, .inl t_text))] := hD
          refine lv_aload_n hx hb dX11_unit_181 rfl (lv_at hl 3 rfl) ?_
          obtain ⟨⟨r9, t_at_r10, t_fault_r11⟩, e12, h⟩ := zz_b h
          dsimp only at h
          refine zVi (As := []) (rest := []) (C := RX11) (wr := [(a_t_now, .inl (cI, 1562, .inl t_now))]) [1, 2] [0] 0 ⟨hx, hb, hml, hown, hts⟩ (mX11_number l D cB cI cZ a_t a_t_now a_t_kept a_t_text a_t_passing a_t_order a_t_times t_thrown t_isKept t_length (t_at_r7 + (nI 1)) t_fault t_open t_asked t_byGun t_prizeMost t_listed t_text H.size N r9 t_at_r10 t_fault_r11 e12) (cwV 0 hts gX11_unit_X11_number rfl rfl rfl (by decide +kernel) ⟨Nat.le_of_ble_eq_true rfl, Nat.le_of_ble_eq_true rfl⟩) hK hN hZ hP hD hS hA rfl rfl rfl rfl rfl rfl rfl rfl hl.1 rfl (lv_room (Nat.le_of_ble_eq_true rfl)) dX11_unit_182 ⟨Nat.le_of_ble_eq_true rfl, Nat.le_of_ble_eq_true rfl⟩ (fun H locs hP hD hS => ?_)
          have hP : va_P D vwCl [(a_t_now, .inl (cI, 1562, .inl t_now)), (a_t, .inr (11, [.int t_thrown, .ref a_t_now, .ref a_t_kept, .int t_isKept, .ref a_t_text, .int t_length, .ref a_t_passing, .int t_at_r10, .int t_fault_r11, .int t_open, .int t_asked, .int t_byGun, .int t_prizeMost, .ref a_t_order, .ref a_t_times, .int t_listed])), (a_t_text, .inl (cB, 200, .inl t_text))] H := hP
          have hD : va_D A [(a_t_now, .inl (cI, 1562, .inl t_now)), (a_t, .inr (11, [.int t_thrown, .ref a_t_now, .ref a_t_kept, .int t_isKept, .ref a_t_text, .int t_length, .ref a_t_passing, .int t_at_r10, .int t_fault_r11, .int t_open, .int t_asked, .int t_byGun, .int t_prizeMost, .ref a_t_order, .ref a_t_times, .int t_listed])), (a_t_text, .inl (cB, 200, .inl t_text))] := hD
          refine lv_istore (lv' := [(4, .int r9), (3, .int r6), (2, .int s0_j120), (1, .int r1), (0, .ref a_t)]) hx hb dX11_unit_185 hl (by decide) rfl (fun ls hl => ?_)
          refine lv_aload_n hx hb dX11_unit_187 rfl (lv_at hl 4 rfl) ?_
          refine va_get (D := D) (ci := 11) (C := RX11) (T := TX11) (N := 16) hx hb hts qX11_unit_X11 hown hK hP 1 rfl rfl 10 (by decide) (hts _ kX11_unit_2) (fun _ h9 => h9) rfl dX11_unit_188 ?_
          refine lv_iconst (v := (-1 : Int32)) hx hb dX11_unit_191 rfl ?_
          refine lv_icmp_ne (tgt := 199) hx hb dX11_unit_192 (by decide) (fun c13 => ?_) (fun c13 => ?_)
          · have h := zz_f h c13
            refine lv_aload_n hx hb dX11_unit_199 rfl (lv_at hl 4 rfl) ?_
            refine lv_aload_n hx hb dX11_unit_200 rfl (lv_at hl 4 rfl) ?_
            refine va_get (D := D) (ci := 11) (C := RX11) (T := TX11) (N := 16) hx hb hts qX11_unit_X11 hown hK hP 1 rfl rfl 10 (by decide) (hts _ kX11_unit_2) (fun _ h9 => h9) rfl dX11_unit_201 ?_
            refine lv_iload_n hx hb dX11_unit_204 rfl (lv_at hl 2 rfl) ?_
            obtain ⟨r14, e15, h⟩ := zz_b h
            refine zVi (As := [.int t_asked, .int s0_j120]) (rest := []) (C := RX11) (wr := [(a_t_text, .inl (cB, 200, .inl t_text))]) [1, 0] [2] 0 ⟨hx, hb, hml, hown, hts⟩ (mX11_of l D cB cI cZ a_t a_t_now a_t_kept a_t_text a_t_passing a_t_order a_t_times t_thrown t_isKept t_length t_at_r10 t_fault_r11 t_open t_asked t_byGun t_prizeMost t_listed t_now H.size t_asked s0_j120 r14 e15) (cwV 2 hts gX11_unit_X11_of rfl rfl rfl (by decide +kernel) ⟨Nat.le_of_ble_eq_true rfl, Nat.le_of_ble_eq_true rfl⟩) hK hN hZ hP hD hS hA rfl rfl rfl rfl rfl rfl rfl rfl hl.1 rfl (lv_room (Nat.le_of_ble_eq_true rfl)) dX11_unit_205 ⟨Nat.le_of_ble_eq_true rfl, Nat.le_of_ble_eq_true rfl⟩ (fun H locs hP hD hS => ?_)
            have hP : va_P D vwCl [(a_t_text, .inl (cB, 200, .inl t_text)), (a_t, .inr (11, [.int t_thrown, .ref a_t_now, .ref a_t_kept, .int t_isKept, .ref a_t_text, .int t_length, .ref a_t_passing, .int t_at_r10, .int t_fault_r11, .int t_open, .int t_asked, .int t_byGun, .int t_prizeMost, .ref a_t_order, .ref a_t_times, .int t_listed])), (a_t_now, .inl (cI, 1562, .inl t_now))] H := hP
            have hD : va_D A [(a_t_text, .inl (cB, 200, .inl t_text)), (a_t, .inr (11, [.int t_thrown, .ref a_t_now, .ref a_t_kept, .int t_isKept, .ref a_t_text, .int t_length, .ref a_t_passing, .int t_at_r10, .int t_fault_r11, .int t_open, .int t_asked, .int t_byGun, .int t_prizeMost, .ref a_t_order, .ref a_t_times, .int t_listed])), (a_t_now, .inl (cI, 1562, .inl t_now))] := hD
            refine lv_istore (lv' := [(5, .int r14), (4, .int r9), (3, .int r6), (2, .int s0_j120), (1, .int r1), (0, .ref a_t)]) hx hb dX11_unit_208 hl (by decide) rfl (fun ls hl => ?_)
            refine lv_iload_n hx hb dX11_unit_210 rfl (lv_at hl 2 rfl) ?_
            refine lv_bipush (v := (nI 61)) hx hb dX11_unit_211 rfl ?_
            refine lv_icmp_ne (tgt := 231) hx hb dX11_unit_213 (by decide) (fun c16 => ?_) (fun c16 => ?_)
            · have h := zz_f h c16
              refine lv_iload_n hx hb dX11_unit_231 rfl (lv_at hl 2 rfl) ?_
              refine lv_bipush (v := (nI 60)) hx hb dX11_unit_232 rfl ?_
              refine lv_icmp_ne (tgt := 252) hx hb dX11_unit_234 (by decide) (fun c17 => ?_) (fun c17 => ?_)
              · have h := zz_f h c17
                refine lv_iload hx hb dX11_unit_252 (lv_at hl 0 rfl) ?_
                refine lv_iload hx hb dX11_unit_254 (lv_at hl 1 rfl) ?_
                refine lv_icmp_le (tgt := 263) hx hb dX11_unit_256 (by decide) (fun c18 => ?_) (fun c18 => ?_)
                · have h := zz_t h c18
                  refine lv_iconst (v := (nI 0)) hx hb dX11_unit_263 rfl ?_
                  obtain ⟨j0_, g_⟩ := Prod.mk.inj (Option.some.inj h)
                  obtain ⟨j1_, g_⟩ := Prod.mk.inj g_
                  obtain ⟨j2_, g_⟩ := Prod.mk.inj g_
                  have j3_ := g_
                  subst j0_
                  subst j1_
                  subst j2_
                  subst j3_
                  exact W.zret (v := (nI 0)) hx hb hr rfl (fun t ht hW => ⟨⟨_, (), rfl, rfl, zPost.of hP hD hK ht hW [1, 2, 0] rfl rfl rfl⟩, hS.F ht⟩) hS.2.2 dX11_unit_264
                · have h := zz_f h c18
                  refine lv_iconst (v := (nI 1)) hx hb dX11_unit_259 rfl ?_
                  refine lv_goto (tgt := 264) hx hb dX11_unit_260 (by decide) ?_
                  obtain ⟨j0_, g_⟩ := Prod.mk.inj (Option.some.inj h)
                  obtain ⟨j1_, g_⟩ := Prod.mk.inj g_
                  obtain ⟨j2_, g_⟩ := Prod.mk.inj g_
                  have j3_ := g_
                  subst j0_
                  subst j1_
                  subst j2_
                  subst j3_
                  exact W.zret (v := (nI 1)) hx hb hr rfl (fun t ht hW => ⟨⟨_, (), rfl, rfl, zPost.of hP hD hK ht hW [1, 2, 0] rfl rfl rfl⟩, hS.F ht⟩) hS.2.2 dX11_unit_264
              · have h := zz_t h c17
                refine lv_iload hx hb dX11_unit_237 (lv_at hl 0 rfl) ?_
                refine lv_iload hx hb dX11_unit_239 (lv_at hl 1 rfl) ?_
                refine lv_icmp_ge (tgt := 248) hx hb dX11_unit_241 (by decide) (fun c19 => ?_) (fun c19 => ?_)
                · have h := zz_t h c19
                  refine lv_iconst (v := (nI 0)) hx hb dX11_unit_248 rfl ?_
                  refine lv_goto (tgt := 264) hx hb dX11_unit_249 (by decide) ?_
                  obtain ⟨j0_, g_⟩ := Prod.mk.inj (Option.some.inj h)
                  obtain ⟨j1_, g_⟩ := Prod.mk.inj g_
                  obtain ⟨j2_, g_⟩ := Prod.mk.inj g_
                  have j3_ := g_
                  subst j0_
                  subst j1_
                  subst j2_
                  subst j3_
                  exact W.zret (v := (nI 0)) hx hb hr rfl (fun t ht hW => ⟨⟨_, (), rfl, rfl, zPost.of hP hD hK ht hW [1, 2, 0] rfl rfl rfl⟩, hS.F ht⟩) hS.2.2 dX11_unit_264
                · have h := zz_f h c19
                  refine lv_iconst (v := (nI 1)) hx hb dX11_unit_244 rfl ?_
                  refine lv_goto (tgt := 264) hx hb dX11_unit_245 (by decide) ?_
                  obtain ⟨j0_, g_⟩ := Prod.mk.inj (Option.some.inj h)
                  obtain ⟨j1_, g_⟩ := Prod.mk.inj g_
                  obtain ⟨j2_, g_⟩ := Prod.mk.inj g_
                  have j3_ := g_
                  subst j0_
                  subst j1_
                  subst j2_
                  subst j3_
                  exact W.zret (v := (nI 1)) hx hb hr rfl (fun t ht hW => ⟨⟨_, (), rfl, rfl, zPost.of hP hD hK ht hW [1, 2, 0] rfl rfl rfl⟩, hS.F ht⟩) hS.2.2 dX11_unit_264
            · have h := zz_t h c16
              refine lv_iload hx hb dX11_unit_216 (lv_at hl 0 rfl) ?_
              refine lv_iload hx hb dX11_unit_218 (lv_at hl 1 rfl) ?_
              refine lv_icmp_ne (tgt := 227) hx hb dX11_unit_220 (by decide) (fun c20 => ?_) (fun c20 => ?_)
              · have h := zz_f h c20
                refine lv_iconst (v := (nI 0)) hx hb dX11_unit_227 rfl ?_
                refine lv_goto (tgt := 264) hx hb dX11_unit_228 (by decide) ?_
                obtain ⟨j0_, g_⟩ := Prod.mk.inj (Option.some.inj h)
                obtain ⟨j1_, g_⟩ := Prod.mk.inj g_
                obtain ⟨j2_, g_⟩ := Prod.mk.inj g_
                have j3_ := g_
                subst j0_
                subst j1_
                subst j2_
                subst j3_
                exact W.zret (v := (nI 0)) hx hb hr rfl (fun t ht hW => ⟨⟨_, (), rfl, rfl, zPost.of hP hD hK ht hW [1, 2, 0] rfl rfl rfl⟩, hS.F ht⟩) hS.2.2 dX11_unit_264
              · have h := zz_t h c20
                refine lv_iconst (v := (nI 1)) hx hb dX11_unit_223 rfl ?_
                refine lv_goto (tgt := 264) hx hb dX11_unit_224 (by decide) ?_
                obtain ⟨j0_, g_⟩ := Prod.mk.inj (Option.some.inj h)
                obtain ⟨j1_, g_⟩ := Prod.mk.inj g_
                obtain ⟨j2_, g_⟩ := Prod.mk.inj g_
                have j3_ := g_
                subst j0_
                subst j1_
                subst j2_
                subst j3_
                exact W.zret (v := (nI 1)) hx hb hr rfl (fun t ht hW => ⟨⟨_, (), rfl, rfl, zPost.of hP hD hK ht hW [1, 2, 0] rfl rfl rfl⟩, hS.F ht⟩) hS.2.2 dX11_unit_264
          · have h := zz_t h c13
            refine lv_iconst (v := (nI 0)) hx hb dX11_unit_195 rfl ?_
            refine lv_goto (tgt := 208) hx hb dX11_unit_196 (by decide) ?_
            refine lv_istore (lv' := [(5, .int (nI 0)), (4, .int r9), (3, .int r6), (2, .int s0_j120), (1, .int r1), (0, .ref a_t)]) hx hb dX11_unit_208 hl (by decide) rfl (fun ls hl => ?_)
            refine lv_iload_n hx hb dX11_unit_210 rfl (lv_at hl 2 rfl) ?_
            refine lv_bipush (v := (nI 61)) hx hb dX11_unit_211 rfl ?_
            refine lv_icmp_ne (tgt := 231) hx hb dX11_unit_213 (by decide) (fun c21 => ?_) (fun c21 => ?_)
            · have h := zz_f h c21
              refine lv_iload_n hx hb dX11_unit_231 rfl (lv_at hl 2 rfl) ?_
              refine lv_bipush (v := (nI 60)) hx hb dX11_unit_232 rfl ?_
              refine lv_icmp_ne (tgt := 252) hx hb dX11_unit_234 (by decide) (fun c22 => ?_) (fun c22 => ?_)
              · have h := zz_f h c22
                refine lv_iload hx hb dX11_unit_252 (lv_at hl 0 rfl) ?_
                refine lv_iload hx hb dX11_unit_254 (lv_at hl 1 rfl) ?_
                refine lv_icmp_le (tgt := 263) hx hb dX11_unit_256 (by decide) (fun c23 => ?_) (fun c23 => ?_)
                · have h := zz_t h c23
                  refine lv_iconst (v := (nI 0)) hx hb dX11_unit_263 rfl ?_
                  obtain ⟨j0_, g_⟩ := Prod.mk.inj (Option.some.inj h)
                  obtain ⟨j1_, g_⟩ := Prod.mk.inj g_
                  obtain ⟨j2_, g_⟩ := Prod.mk.inj g_
                  have j3_ := g_
                  subst j0_
                  subst j1_
                  subst j2_
                  subst j3_
                  exact W.zret (v := (nI 0)) hx hb hr rfl (fun t ht hW => ⟨⟨_, (), rfl, rfl, zPost.of hP hD hK ht hW [1, 0, 2] rfl rfl rfl⟩, hS.F ht⟩) hS.2.2 dX11_unit_264
                · have h := zz_f h c23
                  refine lv_iconst (v := (nI 1)) hx hb dX11_unit_259 rfl ?_
                  refine lv_goto (tgt := 264) hx hb dX11_unit_260 (by decide) ?_
                  obtain ⟨j0_, g_⟩ := Prod.mk.inj (Option.some.inj h)
                  obtain ⟨j1_, g_⟩ := Prod.mk.inj g_
                  obtain ⟨j2_, g_⟩ := Prod.mk.inj g_
                  have j3_ := g_
                  subst j0_
                  subst j1_
                  subst j2_
                  subst j3_
                  exact W.zret (v := (nI 1)) hx hb hr rfl (fun t ht hW => ⟨⟨_, (), rfl, rfl, zPost.of hP hD hK ht hW [1, 0, 2] rfl rfl rfl⟩, hS.F ht⟩) hS.2.2 dX11_unit_264
              · have h := zz_t h c22
                refine lv_iload hx hb dX11_unit_237 (lv_at hl 0 rfl) ?_
                refine lv_iload hx hb dX11_unit_239 (lv_at hl 1 rfl) ?_
                refine lv_icmp_ge (tgt := 248) hx hb dX11_unit_241 (by decide) (fun c24 => ?_) (fun c24 => ?_)
                · have h := zz_t h c24
                  refine lv_iconst (v := (nI 0)) hx hb dX11_unit_248 rfl ?_
                  refine lv_goto (tgt := 264) hx hb dX11_unit_249 (by decide) ?_
                  obtain ⟨j0_, g_⟩ := Prod.mk.inj (Option.some.inj h)
                  obtain ⟨j1_, g_⟩ := Prod.mk.inj g_
                  obtain ⟨j2_, g_⟩ := Prod.mk.inj g_
                  have j3_ := g_
                  subst j0_
                  subst j1_
                  subst j2_
                  subst j3_
                  exact W.zret (v := (nI 0)) hx hb hr rfl (fun t ht hW => ⟨⟨_, (), rfl, rfl, zPost.of hP hD hK ht hW [1, 0, 2] rfl rfl rfl⟩, hS.F ht⟩) hS.2.2 dX11_unit_264
                · have h := zz_f h c24
                  refine lv_iconst (v := (nI 1)) hx hb dX11_unit_244 rfl ?_
                  refine lv_goto (tgt := 264) hx hb dX11_unit_245 (by decide) ?_
                  obtain ⟨j0_, g_⟩ := Prod.mk.inj (Option.some.inj h)
                  obtain ⟨j1_, g_⟩ := Prod.mk.inj g_
                  obtain ⟨j2_, g_⟩ := Prod.mk.inj g_
                  have j3_ := g_
                  subst j0_
                  subst j1_
                  subst j2_
                  subst j3_
                  exact W.zret (v := (nI 1)) hx hb hr rfl (fun t ht hW => ⟨⟨_, (), rfl, rfl, zPost.of hP hD hK ht hW [1, 0, 2] rfl rfl rfl⟩, hS.F ht⟩) hS.2.2 dX11_unit_264
            · have h := zz_t h c21
              refine lv_iload hx hb dX11_unit_216 (lv_at hl 0 rfl) ?_
              refine lv_iload hx hb dX11_unit_218 (lv_at hl 1 rfl) ?_
              refine lv_icmp_ne (tgt := 227) hx hb dX11_unit_220 (by decide) (fun c25 => ?_) (fun c25 => ?_)
              · have h := zz_f h c25
                refine lv_iconst (v := (nI 0)) hx hb dX11_unit_227 rfl ?_
                refine lv_goto (tgt := 264) hx hb dX11_unit_228 (by decide) ?_
                obtain ⟨j0_, g_⟩ := Prod.mk.inj (Option.some.inj h)
                obtain ⟨j1_, g_⟩ := Prod.mk.inj g_
                obtain ⟨j2_, g_⟩ := Prod.mk.inj g_
                have j3_ := g_
                subst j0_
                subst j1_
                subst j2_
                subst j3_
                exact W.zret (v := (nI 0)) hx hb hr rfl (fun t ht hW => ⟨⟨_, (), rfl, rfl, zPost.of hP hD hK ht hW [1, 0, 2] rfl rfl rfl⟩, hS.F ht⟩) hS.2.2 dX11_unit_264
              · have h := zz_t h c25
                refine lv_iconst (v := (nI 1)) hx hb dX11_unit_223 rfl ?_
                refine lv_goto (tgt := 264) hx hb dX11_unit_224 (by decide) ?_
                obtain ⟨j0_, g_⟩ := Prod.mk.inj (Option.some.inj h)
                obtain ⟨j1_, g_⟩ := Prod.mk.inj g_
                obtain ⟨j2_, g_⟩ := Prod.mk.inj g_
                have j3_ := g_
                subst j0_
                subst j1_
                subst j2_
                subst j3_
                exact W.zret (v := (nI 1)) hx hb hr rfl (fun t ht hW => ⟨⟨_, (), rfl, rfl, zPost.of hP hD hK ht hW [1, 0, 2] rfl rfl rfl⟩, hS.F ht⟩) hS.2.2 dX11_unit_264
        refine lv_icmp_eq (tgt := 171) hx hb dX11_unit_150 (by decide) (fun c26 => ?_) (fun c26 => ?_)
        · have h := zz_t h c26
          exact J171  _ _ _ h (hP.sub [0, 1, 2] rfl) (hD.sub [0, 1, 2] rfl rfl) hS (lv_sub hl [0, 1, 2, 3] rfl)
        · have h := zz_f h c26
          refine lv_iload_n hx hb dX11_unit_153 rfl (lv_at hl 0 rfl) ?_
          refine lv_bipush (v := (nI 60)) hx hb dX11_unit_154 rfl ?_
          refine lv_icmp_eq (tgt := 171) hx hb dX11_unit_156 (by decide) (fun c27 => ?_) (fun c27 => ?_)
          · have h := zz_t h c27
            exact J171  _ _ _ h (hP.sub [0, 1, 2] rfl) (hD.sub [0, 1, 2] rfl rfl) hS (lv_sub hl [0, 1, 2, 3] rfl)
          · have h := zz_f h c27
            refine lv_iload_n hx hb dX11_unit_159 rfl (lv_at hl 0 rfl) ?_
            refine lv_bipush (v := (nI 62)) hx hb dX11_unit_160 rfl ?_
            refine lv_icmp_eq (tgt := 171) hx hb dX11_unit_162 (by decide) (fun c28 => ?_) (fun c28 => ?_)
            · have h := zz_t h c28
              exact J171  _ _ _ h (hP.sub [0, 1, 2] rfl) (hD.sub [0, 1, 2] rfl rfl) hS (lv_sub hl [0, 1, 2, 3] rfl)
            · have h := zz_f h c28
              refine lv_aload_n hx hb dX11_unit_165 rfl (lv_at hl 3 rfl) ?_
              obtain ⟨t_fault_r29, e30, h⟩ := zz_b h
              refine zVv (As := []) (rest := []) (C := RX11) (wr := [(a_t_now, .inl (cI, 1562, .inl t_now)), (a_t_text, .inl (cB, 200, .inl t_text))]) [1] [0, 2] 0 ⟨hx, hb, hml, hown, hts⟩ (mX11_wrong l D cB cI cZ a_t a_t_now a_t_kept a_t_text a_t_passing a_t_order a_t_times t_thrown t_isKept t_length t_at_r7 t_fault t_open t_asked t_byGun t_prizeMost t_listed H.size t_fault_r29 e30) (cwV 0 hts gX11_unit_X11_wrong rfl rfl rfl (by decide +kernel) ⟨Nat.le_of_ble_eq_true rfl, Nat.le_of_ble_eq_true rfl⟩) hK hN hZ hP hD hS hA rfl rfl rfl rfl rfl rfl rfl rfl hl.1 rfl (lv_room (Nat.le_of_ble_eq_true rfl)) dX11_unit_166 ⟨Nat.le_of_ble_eq_true rfl, Nat.le_of_ble_eq_true rfl⟩ (fun H locs hP hD hS => ?_)
              have hP : va_P D vwCl [(a_t_now, .inl (cI, 1562, .inl t_now)), (a_t_text, .inl (cB, 200, .inl t_text)), (a_t, .inr (11, [.int t_thrown, .ref a_t_now, .ref a_t_kept, .int t_isKept, .ref a_t_text, .int t_length, .ref a_t_passing, .int t_at_r7, .int t_fault_r29, .int t_open, .int t_asked, .int t_byGun, .int t_prizeMost, .ref a_t_order, .ref a_t_times, .int t_listed]))] H := hP
              have hD : va_D A [(a_t_now, .inl (cI, 1562, .inl t_now)), (a_t_text, .inl (cB, 200, .inl t_text)), (a_t, .inr (11, [.int t_thrown, .ref a_t_now, .ref a_t_kept, .int t_isKept, .ref a_t_text, .int t_length, .ref a_t_passing, .int t_at_r7, .int t_fault_r29, .int t_open, .int t_asked, .int t_byGun, .int t_prizeMost, .ref a_t_order, .ref a_t_times, .int t_listed]))] := hD
              refine lv_iconst (v := (nI 0)) hx hb dX11_unit_169 rfl ?_
              obtain ⟨j0_, g_⟩ := Prod.mk.inj (Option.some.inj h)
              obtain ⟨j1_, g_⟩ := Prod.mk.inj g_
              obtain ⟨j2_, g_⟩ := Prod.mk.inj g_
              have j3_ := g_
              subst j0_
              subst j1_
              subst j2_
              subst j3_
              exact W.zret (v := (nI 0)) hx hb hr rfl (fun t ht hW => ⟨⟨_, (), rfl, rfl, zPost.of hP hD hK ht hW [2, 0, 1] rfl rfl rfl⟩, hS.F ht⟩) hS.2.2 dX11_unit_170
      · have h := zz_t h c5
        refine lv_aload_n hx hb dX11_unit_126 rfl (lv_at hl 2 rfl) ?_
        obtain ⟨t_fault_r31, e32, h⟩ := zz_b h
        refine zVv (As := []) (rest := []) (C := RX11) (wr := [(a_t_now, .inl (cI, 1562, .inl t_now)), (a_t_text, .inl (cB, 200, .inl t_text))]) [1] [0, 2] 0 ⟨hx, hb, hml, hown, hts⟩ (mX11_wrong l D cB cI cZ a_t a_t_now a_t_kept a_t_text a_t_passing a_t_order a_t_times t_thrown t_isKept t_length t_at_r2 t_fault t_open t_asked t_byGun t_prizeMost t_listed H.size t_fault_r31 e32) (cwV 0 hts gX11_unit_X11_wrong rfl rfl rfl (by decide +kernel) ⟨Nat.le_of_ble_eq_true rfl, Nat.le_of_ble_eq_true rfl⟩) hK hN hZ hP hD hS hA rfl rfl rfl rfl rfl rfl rfl rfl hl.1 rfl (lv_room (Nat.le_of_ble_eq_true rfl)) dX11_unit_127 ⟨Nat.le_of_ble_eq_true rfl, Nat.le_of_ble_eq_true rfl⟩ (fun H locs hP hD hS => ?_)
        have hP : va_P D vwCl [(a_t_now, .inl (cI, 1562, .inl t_now)), (a_t_text, .inl (cB, 200, .inl t_text)), (a_t, .inr (11, [.int t_thrown, .ref a_t_now, .ref a_t_kept, .int t_isKept, .ref a_t_text, .int t_length, .ref a_t_passing, .int t_at_r2, .int t_fault_r31, .int t_open, .int t_asked, .int t_byGun, .int t_prizeMost, .ref a_t_order, .ref a_t_times, .int t_listed]))] H := hP
        have hD : va_D A [(a_t_now, .inl (cI, 1562, .inl t_now)), (a_t_text, .inl (cB, 200, .inl t_text)), (a_t, .inr (11, [.int t_thrown, .ref a_t_now, .ref a_t_kept, .int t_isKept, .ref a_t_text, .int t_length, .ref a_t_passing, .int t_at_r2, .int t_fault_r31, .int t_open, .int t_asked, .int t_byGun, .int t_prizeMost, .ref a_t_order, .ref a_t_times, .int t_listed]))] := hD
        refine lv_iconst (v := (nI 0)) hx hb dX11_unit_130 rfl ?_
        obtain ⟨j0_, g_⟩ := Prod.mk.inj (Option.some.inj h)
        obtain ⟨j1_, g_⟩ := Prod.mk.inj g_
        obtain ⟨j2_, g_⟩ := Prod.mk.inj g_
        have j3_ := g_
        subst j0_
        subst j1_
        subst j2_
        subst j3_
        exact W.zret (v := (nI 0)) hx hb hr rfl (fun t ht hW => ⟨⟨_, (), rfl, rfl, zPost.of hP hD hK ht hW [2, 0, 1] rfl rfl rfl⟩, hS.F ht⟩) hS.2.2 dX11_unit_131
    refine lv_icmp_ne (tgt := 79) hx hb dX11_unit_72 (by decide) (fun c33 => ?_) (fun c33 => ?_)
    · have h := zz_f h c33
      refine lv_iload_n hx hb dX11_unit_79 rfl (lv_at hl 0 rfl) ?_
      refine lv_bipush (v := (nI 121)) hx hb dX11_unit_80 rfl ?_
      refine lv_icmp_ne (tgt := 89) hx hb dX11_unit_82 (by decide) (fun c34 => ?_) (fun c34 => ?_)
      · have h := zz_f h c34
        refine lv_iload_n hx hb dX11_unit_89 rfl (lv_at hl 0 rfl) ?_
        refine lv_bipush (v := (nI 116)) hx hb dX11_unit_90 rfl ?_
        refine lv_icmp_ne (tgt := 99) hx hb dX11_unit_92 (by decide) (fun c35 => ?_) (fun c35 => ?_)
        · have h := zz_f h c35
          refine lv_iload_n hx hb dX11_unit_99 rfl (lv_at hl 0 rfl) ?_
          refine lv_bipush (v := (nI 112)) hx hb dX11_unit_100 rfl ?_
          refine lv_icmp_ne (tgt := 109) hx hb dX11_unit_102 (by decide) (fun c36 => ?_) (fun c36 => ?_)
          · have h := zz_f h c36
            refine lv_iload_n hx hb dX11_unit_109 rfl (lv_at hl 0 rfl) ?_
            refine lv_bipush (v := (nI 107)) hx hb dX11_unit_110 rfl ?_
            refine lv_icmp_ne (tgt := 119) hx hb dX11_unit_112 (by decide) (fun c37 => ?_) (fun c37 => ?_)
            · have h := zz_f h c37
              refine lv_iconst (v := (-1 : Int32)) hx hb dX11_unit_119 rfl ?_
              exact J120 (-1 : Int32) _ _ _ h (hP.sub [0, 1, 2] rfl) (hD.sub [0, 1, 2] rfl rfl) hS (lv_sub hl [0, 1] rfl)
            · have h := zz_t h c37
              refine lv_iconst (v := (nI 0)) hx hb dX11_unit_115 rfl ?_
              refine lv_goto (tgt := 120) hx hb dX11_unit_116 (by decide) ?_
              exact J120 (nI 0) _ _ _ h (hP.sub [0, 1, 2] rfl) (hD.sub [0, 1, 2] rfl rfl) hS (lv_sub hl [0, 1] rfl)
          · have h := zz_t h c36
            refine lv_iconst (v := (nI 5)) hx hb dX11_unit_105 rfl ?_
            refine lv_goto (tgt := 120) hx hb dX11_unit_106 (by decide) ?_
            exact J120 (nI 5) _ _ _ h (hP.sub [0, 1, 2] rfl) (hD.sub [0, 1, 2] rfl rfl) hS (lv_sub hl [0, 1] rfl)
        · have h := zz_t h c35
          refine lv_iconst (v := (nI 4)) hx hb dX11_unit_95 rfl ?_
          refine lv_goto (tgt := 120) hx hb dX11_unit_96 (by decide) ?_
          exact J120 (nI 4) _ _ _ h (hP.sub [0, 1, 2] rfl) (hD.sub [0, 1, 2] rfl rfl) hS (lv_sub hl [0, 1] rfl)
      · have h := zz_t h c34
        refine lv_iconst (v := (nI 2)) hx hb dX11_unit_85 rfl ?_
        refine lv_goto (tgt := 120) hx hb dX11_unit_86 (by decide) ?_
        exact J120 (nI 2) _ _ _ h (hP.sub [0, 1, 2] rfl) (hD.sub [0, 1, 2] rfl rfl) hS (lv_sub hl [0, 1] rfl)
    · have h := zz_t h c33
      refine lv_iconst (v := (nI 3)) hx hb dX11_unit_75 rfl ?_
      refine lv_goto (tgt := 120) hx hb dX11_unit_76 (by decide) ?_
      exact J120 (nI 3) _ _ _ h (hP.sub [0, 1, 2] rfl) (hD.sub [0, 1, 2] rfl rfl) hS (lv_sub hl [0, 1] rfl)
  · have h := zz_t h c4
    refine lv_aload_n hx hb dX11_unit_11 rfl (lv_at hl 1 rfl) ?_
    refine va_get (D := D) (ci := 11) (C := RX11) (T := TX11) (N := 16) hx hb hts qX11_unit_X11 hown hK hP 1 rfl rfl 9 (by decide) (hts _ kX11_unit_3) (fun _ h9 => h9) rfl dX11_unit_12 ?_
    refine lv_bipush (v := (nI 8)) hx hb dX11_unit_15 rfl ?_
    refine lv_icmp_ne (tgt := 26) hx hb dX11_unit_17 (by decide) (fun c38 => ?_) (fun c38 => ?_)
    · have h := zz_f h c38
      refine lv_aload_n hx hb dX11_unit_26 rfl (lv_at hl 1 rfl) ?_
      refine lv_dup hx hb dX11_unit_27 rfl ?_
      refine va_get (D := D) (ci := 11) (C := RX11) (T := TX11) (N := 16) hx hb hts qX11_unit_X11 hown hK hP 1 rfl rfl 9 (by decide) (hts _ kX11_unit_3) (fun _ h9 => h9) rfl dX11_unit_28 ?_
      refine lv_iconst (v := (nI 1)) hx hb dX11_unit_31 rfl ?_
      refine lv_iadd hx hb dX11_unit_32 ?_
      refine va_put (D := D) (ci := 11) (ty := .int) (C := RX11) (T := TX11) (N := 16) hx hb hts qX11_unit_X11 tyX11 tyX11_ok nmX11 hown hK hP hD hS 1 rfl rfl 9 (by decide) (hts _ kX11_unit_3) (fun _ h9 => h9) rfl (by decide +kernel) rfl (by first | rfl | exact zz_fit) (Nat.le_of_ble_eq_true rfl) dX11_unit_33 (fun H locs hP hD hS => ?_)
      have hP : va_P D vwCl [(a_t_now, .inl (cI, 1562, .inl t_now)), (a_t, .inr (11, [.int t_thrown, .ref a_t_now, .ref a_t_kept, .int t_isKept, .ref a_t_text, .int t_length, .ref a_t_passing, .int t_at_r2, .int t_fault, .int (t_open + (nI 1)), .int t_asked, .int t_byGun, .int t_prizeMost, .ref a_t_order, .ref a_t_times, .int t_listed])), (a_t_text, .inl (cB, 200, .inl t_text))] H := hP
      have hD : va_D A [(a_t_now, .inl (cI, 1562, .inl t_now)), (a_t, .inr (11, [.int t_thrown, .ref a_t_now, .ref a_t_kept, .int t_isKept, .ref a_t_text, .int t_length, .ref a_t_passing, .int t_at_r2, .int t_fault, .int (t_open + (nI 1)), .int t_asked, .int t_byGun, .int t_prizeMost, .ref a_t_order, .ref a_t_times, .int t_listed])), (a_t_text, .inl (cB, 200, .inl t_text))] := hD
      refine lv_aload_n hx hb dX11_unit_36 rfl (lv_at hl 1 rfl) ?_
      refine lv_dup hx hb dX11_unit_37 rfl ?_
      refine va_get (D := D) (ci := 11) (C := RX11) (T := TX11) (N := 16) hx hb hts qX11_unit_X11 hown hK hP 1 rfl rfl 7 (by decide) (hts _ kX11_unit_0) (fun _ h9 => h9) rfl dX11_unit_38 ?_
      refine lv_iconst (v := (nI 1)) hx hb dX11_unit_41 rfl ?_
      refine lv_iadd hx hb dX11_unit_42 ?_
      refine va_put (D := D) (ci := 11) (ty := .int) (C := RX11) (T := TX11) (N := 16) hx hb hts qX11_unit_X11 tyX11 tyX11_ok nmX11 hown hK hP hD hS 1 rfl rfl 7 (by decide) (hts _ kX11_unit_0) (fun _ h9 => h9) rfl (by decide +kernel) rfl (by first | rfl | exact zz_fit) (Nat.le_of_ble_eq_true rfl) dX11_unit_43 (fun H locs hP hD hS => ?_)
      have hP : va_P D vwCl [(a_t_now, .inl (cI, 1562, .inl t_now)), (a_t, .inr (11, [.int t_thrown, .ref a_t_now, .ref a_t_kept, .int t_isKept, .ref a_t_text, .int t_length, .ref a_t_passing, .int (t_at_r2 + (nI 1)), .int t_fault, .int (t_open + (nI 1)), .int t_asked, .int t_byGun, .int t_prizeMost, .ref a_t_order, .ref a_t_times, .int t_listed])), (a_t_text, .inl (cB, 200, .inl t_text))] H := hP
      have hD : va_D A [(a_t_now, .inl (cI, 1562, .inl t_now)), (a_t, .inr (11, [.int t_thrown, .ref a_t_now, .ref a_t_kept, .int t_isKept, .ref a_t_text, .int t_length, .ref a_t_passing, .int (t_at_r2 + (nI 1)), .int t_fault, .int (t_open + (nI 1)), .int t_asked, .int t_byGun, .int t_prizeMost, .ref a_t_order, .ref a_t_times, .int t_listed])), (a_t_text, .inl (cB, 200, .inl t_text))] := hD
      refine lv_aload_n hx hb dX11_unit_46 rfl (lv_at hl 1 rfl) ?_
      obtain ⟨⟨b39, t_at_r40, t_fault_r41, t_open_r42⟩, e43, h⟩ := zz_b h
      dsimp only at h
      refine zVi (As := []) (rest := []) (C := RX11) (wr := []) [1, 0, 2] [] 0 ⟨hx, hb, hml, hown, hts⟩ (mX11_tests_6 l D cB cI cZ a_t a_t_now a_t_kept a_t_text a_t_passing a_t_order a_t_times t_thrown t_isKept t_length (t_at_r2 + (nI 1)) t_fault (t_open + (nI 1)) t_asked t_byGun t_prizeMost t_listed t_now t_text H.size N b39 t_at_r40 t_fault_r41 t_open_r42 (hT ▸ e43)) (cwV 0 hts gX11_unit_X11_tests rfl rfl rfl (by decide +kernel) ⟨Nat.le_of_ble_eq_true rfl, Nat.le_of_ble_eq_true rfl⟩) hK hN hZ hP hD hS hA rfl rfl rfl rfl rfl rfl rfl rfl hl.1 rfl (lv_room (Nat.le_of_ble_eq_true rfl)) dX11_unit_47 ⟨Nat.le_of_ble_eq_true rfl, Nat.le_of_ble_eq_true rfl⟩ (fun H locs hP hD hS => ?_)
      have hP : va_P D vwCl [(a_t, .inr (11, [.int t_thrown, .ref a_t_now, .ref a_t_kept, .int t_isKept, .ref a_t_text, .int t_length, .ref a_t_passing, .int t_at_r40, .int t_fault_r41, .int t_open_r42, .int t_asked, .int t_byGun, .int t_prizeMost, .ref a_t_order, .ref a_t_times, .int t_listed])), (a_t_now, .inl (cI, 1562, .inl t_now)), (a_t_text, .inl (cB, 200, .inl t_text))] H := hP
      have hD : va_D A [(a_t, .inr (11, [.int t_thrown, .ref a_t_now, .ref a_t_kept, .int t_isKept, .ref a_t_text, .int t_length, .ref a_t_passing, .int t_at_r40, .int t_fault_r41, .int t_open_r42, .int t_asked, .int t_byGun, .int t_prizeMost, .ref a_t_order, .ref a_t_times, .int t_listed])), (a_t_now, .inl (cI, 1562, .inl t_now)), (a_t_text, .inl (cB, 200, .inl t_text))] := hD
      refine lv_istore_n (lv' := [(2, .int (zb b39)), (1, .int r1), (0, .ref a_t)]) hx hb dX11_unit_50 rfl hl (by decide) rfl (fun ls hl => ?_)
      refine lv_aload_n hx hb dX11_unit_51 rfl (lv_at hl 2 rfl) ?_
      refine lv_bipush (v := (nI 41)) hx hb dX11_unit_52 rfl ?_
      obtain ⟨⟨t_at_r44, t_fault_r45⟩, e46, h⟩ := zz_b h
      dsimp only at h
      refine zVv (As := [.int (nI 41)]) (rest := []) (C := RX11) (wr := [(a_t_now, .inl (cI, 1562, .inl t_now))]) [0, 2] [1] 0 ⟨hx, hb, hml, hown, hts⟩ (mX11_sign l D cB cI cZ a_t a_t_now a_t_kept a_t_text a_t_passing a_t_order a_t_times t_thrown t_isKept t_length t_at_r40 t_fault_r41 t_open_r42 t_asked t_byGun t_prizeMost t_listed t_text H.size (nI 41) N t_at_r44 t_fault_r45 e46) (cwV 1 hts gX11_unit_X11_sign rfl rfl rfl (by decide +kernel) ⟨Nat.le_of_ble_eq_true rfl, Nat.le_of_ble_eq_true rfl⟩) hK hN hZ hP hD hS hA rfl rfl rfl rfl rfl rfl rfl rfl hl.1 rfl (lv_room (Nat.le_of_ble_eq_true rfl)) dX11_unit_54 ⟨Nat.le_of_ble_eq_true rfl, Nat.le_of_ble_eq_true rfl⟩ (fun H locs hP hD hS => ?_)
      have hP : va_P D vwCl [(a_t_now, .inl (cI, 1562, .inl t_now)), (a_t, .inr (11, [.int t_thrown, .ref a_t_now, .ref a_t_kept, .int t_isKept, .ref a_t_text, .int t_length, .ref a_t_passing, .int t_at_r44, .int t_fault_r45, .int t_open_r42, .int t_asked, .int t_byGun, .int t_prizeMost, .ref a_t_order, .ref a_t_times, .int t_listed])), (a_t_text, .inl (cB, 200, .inl t_text))] H := hP
      have hD : va_D A [(a_t_now, .inl (cI, 1562, .inl t_now)), (a_t, .inr (11, [.int t_thrown, .ref a_t_now, .ref a_t_kept, .int t_isKept, .ref a_t_text, .int t_length, .ref a_t_passing, .int t_at_r44, .int t_fault_r45, .int t_open_r42, .int t_asked, .int t_byGun, .int t_prizeMost, .ref a_t_order, .ref a_t_times, .int t_listed])), (a_t_text, .inl (cB, 200, .inl t_text))] := hD
      refine lv_aload_n hx hb dX11_unit_57 rfl (lv_at hl 2 rfl) ?_
      refine lv_dup hx hb dX11_unit_58 rfl ?_
      refine va_get (D := D) (ci := 11) (C := RX11) (T := TX11) (N := 16) hx hb hts qX11_unit_X11 hown hK hP 1 rfl rfl 9 (by decide) (hts _ kX11_unit_3) (fun _ h9 => h9) rfl dX11_unit_59 ?_
      refine lv_iconst (v := (nI 1)) hx hb dX11_unit_62 rfl ?_
      refine lv_isub hx hb dX11_unit_63 ?_
      refine va_put (D := D) (ci := 11) (ty := .int) (C := RX11) (T := TX11) (N := 16) hx hb hts qX11_unit_X11 tyX11 tyX11_ok nmX11 hown hK hP hD hS 1 rfl rfl 9 (by decide) (hts _ kX11_unit_3) (fun _ h9 => h9) rfl (by decide +kernel) rfl (by first | rfl | exact zz_fit) (Nat.le_of_ble_eq_true rfl) dX11_unit_64 (fun H locs hP hD hS => ?_)
      have hP : va_P D vwCl [(a_t_now, .inl (cI, 1562, .inl t_now)), (a_t, .inr (11, [.int t_thrown, .ref a_t_now, .ref a_t_kept, .int t_isKept, .ref a_t_text, .int t_length, .ref a_t_passing, .int t_at_r44, .int t_fault_r45, .int (t_open_r42 - (nI 1)), .int t_asked, .int t_byGun, .int t_prizeMost, .ref a_t_order, .ref a_t_times, .int t_listed])), (a_t_text, .inl (cB, 200, .inl t_text))] H := hP
      have hD : va_D A [(a_t_now, .inl (cI, 1562, .inl t_now)), (a_t, .inr (11, [.int t_thrown, .ref a_t_now, .ref a_t_kept, .int t_isKept, .ref a_t_text, .int t_length, .ref a_t_passing, .int t_at_r44, .int t_fault_r45, .int (t_open_r42 - (nI 1)), .int t_asked, .int t_byGun, .int t_prizeMost, .ref a_t_order, .ref a_t_times, .int t_listed])), (a_t_text, .inl (cB, 200, .inl t_text))] := hD
      refine lv_iload_n hx hb dX11_unit_67 rfl (lv_at hl 0 rfl) ?_
      obtain ⟨j0_, g_⟩ := Prod.mk.inj (Option.some.inj h)
      obtain ⟨j1_, g_⟩ := Prod.mk.inj g_
      obtain ⟨j2_, g_⟩ := Prod.mk.inj g_
      have j3_ := g_
      subst j0_
      subst j1_
      subst j2_
      subst j3_
      exact W.zret (v := (zb b39)) hx hb hr zz_n (fun t ht hW => ⟨⟨_, (), rfl, rfl, zPost.of hP hD hK ht hW [1, 0, 2] rfl rfl rfl⟩, hS.F ht⟩) hS.2.2 dX11_unit_68
    · have h := zz_t h c38
      refine lv_aload_n hx hb dX11_unit_20 rfl (lv_at hl 1 rfl) ?_
      obtain ⟨t_fault_r47, e48, h⟩ := zz_b h
      refine zVv (As := []) (rest := []) (C := RX11) (wr := [(a_t_now, .inl (cI, 1562, .inl t_now)), (a_t_text, .inl (cB, 200, .inl t_text))]) [1] [0, 2] 0 ⟨hx, hb, hml, hown, hts⟩ (mX11_wrong l D cB cI cZ a_t a_t_now a_t_kept a_t_text a_t_passing a_t_order a_t_times t_thrown t_isKept t_length t_at_r2 t_fault t_open t_asked t_byGun t_prizeMost t_listed H.size t_fault_r47 e48) (cwV 0 hts gX11_unit_X11_wrong rfl rfl rfl (by decide +kernel) ⟨Nat.le_of_ble_eq_true rfl, Nat.le_of_ble_eq_true rfl⟩) hK hN hZ hP hD hS hA rfl rfl rfl rfl rfl rfl rfl rfl hl.1 rfl (lv_room (Nat.le_of_ble_eq_true rfl)) dX11_unit_21 ⟨Nat.le_of_ble_eq_true rfl, Nat.le_of_ble_eq_true rfl⟩ (fun H locs hP hD hS => ?_)
      have hP : va_P D vwCl [(a_t_now, .inl (cI, 1562, .inl t_now)), (a_t_text, .inl (cB, 200, .inl t_text)), (a_t, .inr (11, [.int t_thrown, .ref a_t_now, .ref a_t_kept, .int t_isKept, .ref a_t_text, .int t_length, .ref a_t_passing, .int t_at_r2, .int t_fault_r47, .int t_open, .int t_asked, .int t_byGun, .int t_prizeMost, .ref a_t_order, .ref a_t_times, .int t_listed]))] H := hP
      have hD : va_D A [(a_t_now, .inl (cI, 1562, .inl t_now)), (a_t_text, .inl (cB, 200, .inl t_text)), (a_t, .inr (11, [.int t_thrown, .ref a_t_now, .ref a_t_kept, .int t_isKept, .ref a_t_text, .int t_length, .ref a_t_passing, .int t_at_r2, .int t_fault_r47, .int t_open, .int t_asked, .int t_byGun, .int t_prizeMost, .ref a_t_order, .ref a_t_times, .int t_listed]))] := hD
      refine lv_iconst (v := (nI 0)) hx hb dX11_unit_24 rfl ?_
      obtain ⟨j0_, g_⟩ := Prod.mk.inj (Option.some.inj h)
      obtain ⟨j1_, g_⟩ := Prod.mk.inj g_
      obtain ⟨j2_, g_⟩ := Prod.mk.inj g_
      have j3_ := g_
      subst j0_
      subst j1_
      subst j2_
      subst j3_
      exact W.zret (v := (nI 0)) hx hb hr rfl (fun t ht hW => ⟨⟨_, (), rfl, rfl, zPost.of hP hD hK ht hW [2, 0, 1] rfl rfl rfl⟩, hS.F ht⟩) hS.2.2 dX11_unit_25
set_option maxHeartbeats 4000000 in
set_option maxRecDepth 100000 in
theorem mX11_part_7 (l : Launch) (D : va_G) (cB cI cZ : ClassId) (a_t : Nat) (a_t_now : Nat) (a_t_kept : Nat) (a_t_text : Nat) (a_t_passing : Nat) (a_t_order : Nat) (a_t_times : Nat) (t_thrown : Int32) (t_isKept : Int32) (t_length : Int32) (t_at : Int32) (t_fault : Int32) (t_open : Int32) (t_asked : Int32) (t_byGun : Int32) (t_prizeMost : Int32) (t_listed : Int32) (t_now : Nat → Int32) (t_text : Nat → Int32) (sz : Nat) (N : Nat) (T : Int32 → Int32 → Int32 → Int32 → Int32 → (Nat → Int32) → (Nat → Int32) → Option (Bool × Int32 × Int32 × Int32)) (hT : T = fX11_testsD N 7) (b0 : Bool) (t_at' : Int32) (t_fault' : Int32) (t_open' : Int32) (h : fX11_part T N t_asked t_at t_fault t_length t_open t_now t_text = some (b0, t_at', t_fault', t_open')) : Met l yX11_part wsX11_part ({ frames := 24, cells := 0, slots := 0, locals := 550 } : Room) (va_Pc [.ref a_t] (zPre D (zT cB cI cZ) [(a_t, .inr (11, [.int t_thrown, .ref a_t_now, .ref a_t_kept, .int t_isKept, .ref a_t_text, .int t_length, .ref a_t_passing, .int t_at, .int t_fault, .int t_open, .int t_asked, .int t_byGun, .int t_prizeMost, .ref a_t_order, .ref a_t_times, .int t_listed])), (a_t_now, .inl (cI, 1562, .inl t_now)), (a_t_text, .inl (cB, 200, .inl t_text))] sz)) (zQi (zb b0) D (zT cB cI cZ) [(a_t, .inr (11, [.int t_thrown, .ref a_t_now, .ref a_t_kept, .int t_isKept, .ref a_t_text, .int t_length, .ref a_t_passing, .int t_at', .int t_fault', .int t_open', .int t_asked, .int t_byGun, .int t_prizeMost, .ref a_t_order, .ref a_t_times, .int t_listed])), (a_t_now, .inl (cI, 1562, .inl t_now)), (a_t_text, .inl (cB, 200, .inl t_text))] (va_A [(a_t, .inr (11, [.int t_thrown, .ref a_t_now, .ref a_t_kept, .int t_isKept, .ref a_t_text, .int t_length, .ref a_t_passing, .int t_at, .int t_fault, .int t_open, .int t_asked, .int t_byGun, .int t_prizeMost, .ref a_t_order, .ref a_t_times, .int t_listed])), (a_t_now, .inl (cI, 1562, .inl t_now)), (a_t_text, .inl (cB, 200, .inl t_text))] sz)) 0 0 (va_A [(a_t, .inr (11, [.int t_thrown, .ref a_t_now, .ref a_t_kept, .int t_isKept, .ref a_t_text, .int t_length, .ref a_t_passing, .int t_at, .int t_fault, .int t_open, .int t_asked, .int t_byGun, .int t_prizeMost, .ref a_t_order, .ref a_t_times, .int t_listed])), (a_t_now, .inl (cI, 1562, .inl t_now)), (a_t_text, .inl (cB, 200, .inl t_text))] sz) := by
  refine Met.ofW (cc := cX11_part) (maxL := 3) (ret := (some .boolean)) (by decide) rfl ?_
  intro p e s m args below meth c s₁ B hml hv
  obtain ⟨rfl, hsz, hP, hK, hN, hZ, hD0⟩ := hv
  have hx := B.exec
  have hb := B.bytes
  have hr := B.returns
  have hts := atoms_spec (ws := wsX11_part) B.pre
  have hown : s.vm.findClass RX11 = some m.cls := findClass_of_methodNamed B.named
  have hlocks := B.notSynchronized
  subst hsz
  have hD := hD0.self (sz := s.heap.size)
  generalize hAe : va_A [(a_t, .inr (11, [.int t_thrown, .ref a_t_now, .ref a_t_kept, .int t_isKept, .ref a_t_text, .int t_length, .ref a_t_passing, .int t_at, .int t_fault, .int t_open, .int t_asked, .int t_byGun, .int t_prizeMost, .ref a_t_order, .ref a_t_times, .int t_listed])), (a_t_now, .inl (cI, 1562, .inl t_now)), (a_t_text, .inl (cB, 200, .inl t_text))] s.heap.size = A at hD hZ ⊢
  have hA : ∀ q : Nat, s.heap.size ≤ q → A q := fun q h => by rw [← hAe]; exact Or.inr h
  have hS : va_S A s.heap s.heap [] := va_S.rf
  have hl := lv_entry ([.ref a_t]) (n := 3) (Nat.le_of_ble_eq_true rfl)
  rw [lg_entry_eq]
  generalize (lg_sl ([.ref a_t]) ++ List.replicate (3 - (lg_sl ([.ref a_t])).length) Slot.unset).toArray = ls at hl ⊢
  have hl : lv_has ls 3 [(0, .ref a_t)] := hl
  unfold fX11_part at h
  refine lv_aload_n hx hb dX11_part_0 rfl (lv_at hl 0 rfl) ?_
  obtain ⟨⟨b1, t_at_r2, t_fault_r3, t_open_r4⟩, e5, h⟩ := zz_b h
  dsimp only at h
  refine zVi (As := []) (rest := []) (C := RX11) (wr := []) [0, 1, 2] [] 0 ⟨hx, hb, hml, hown, hts⟩ (mX11_unit_7 l D cB cI cZ a_t a_t_now a_t_kept a_t_text a_t_passing a_t_order a_t_times t_thrown t_isKept t_length t_at t_fault t_open t_asked t_byGun t_prizeMost t_listed t_now t_text s.heap.size N T hT b1 t_at_r2 t_fault_r3 t_open_r4 e5) (cwV 0 hts gX11_part_X11_unit rfl rfl rfl (by decide +kernel) ⟨Nat.le_of_ble_eq_true rfl, Nat.le_of_ble_eq_true rfl⟩) hK hN hZ hP hD hS hA rfl rfl rfl rfl rfl rfl rfl rfl hl.1 rfl (lv_room (Nat.le_of_ble_eq_true rfl)) dX11_part_1 ⟨Nat.le_of_ble_eq_true rfl, Nat.le_of_ble_eq_true rfl⟩ (fun H locs hP hD hS => ?_)
  have hP : va_P D vwCl [(a_t, .inr (11, [.int t_thrown, .ref a_t_now, .ref a_t_kept, .int t_isKept, .ref a_t_text, .int t_length, .ref a_t_passing, .int t_at_r2, .int t_fault_r3, .int t_open_r4, .int t_asked, .int t_byGun, .int t_prizeMost, .ref a_t_order, .ref a_t_times, .int t_listed])), (a_t_now, .inl (cI, 1562, .inl t_now)), (a_t_text, .inl (cB, 200, .inl t_text))] H := hP
  have hD : va_D A [(a_t, .inr (11, [.int t_thrown, .ref a_t_now, .ref a_t_kept, .int t_isKept, .ref a_t_text, .int t_length, .ref a_t_passing, .int t_at_r2, .int t_fault_r3, .int t_open_r4, .int t_asked, .int t_byGun, .int t_prizeMost, .ref a_t_order, .ref a_t_times, .int t_listed])), (a_t_now, .inl (cI, 1562, .inl t_now)), (a_t_text, .inl (cB, 200, .inl t_text))] := hD
  refine lv_istore_n (lv' := [(1, .int (zb b1)), (0, .ref a_t)]) hx hb dX11_part_4 rfl hl (by decide) rfl (fun ls hl => ?_)
  have X5_53 : ∀ (v1_5 : Bool) (t_at_l5 : Int32) (t_fault_l5 : Int32) (t_open_l5 : Int32) (H : Heap) (locs : List Loc) (ls : Array Slot), some (v1_5, t_at_l5, t_fault_l5, t_open_l5) = some (b0, t_at', t_fault', t_open') → va_P D vwCl [(a_t, .inr (11, [.int t_thrown, .ref a_t_now, .ref a_t_kept, .int t_isKept, .ref a_t_text, .int t_length, .ref a_t_passing, .int t_at_l5, .int t_fault_l5, .int t_open_l5, .int t_asked, .int t_byGun, .int t_prizeMost, .ref a_t_order, .ref a_t_times, .int t_listed])), (a_t_now, .inl (cI, 1562, .inl t_now)), (a_t_text, .inl (cB, 200, .inl t_text))] H → va_D A [(a_t, .inr (11, [.int t_thrown, .ref a_t_now, .ref a_t_kept, .int t_isKept, .ref a_t_text, .int t_length, .ref a_t_passing, .int t_at_l5, .int t_fault_l5, .int t_open_l5, .int t_asked, .int t_byGun, .int t_prizeMost, .ref a_t_order, .ref a_t_times, .int t_listed])), (a_t_now, .inl (cI, 1562, .inl t_now)), (a_t_text, .inl (cB, 200, .inl t_text))] → va_S A s.heap H locs → lv_has ls 3 [(1, .int (zb v1_5)), (0, .ref a_t)] → W p l e (headSpec wsX11_part ({ frames := 24, cells := 0, slots := 0, locals := 550 } : Room)).room s m #[Value.ref a_t] below meth c H locs 0 0 (MQ below (zQi (zb b0) D (zT cB cI cZ) [(a_t, .inr (11, [.int t_thrown, .ref a_t_now, .ref a_t_kept, .int t_isKept, .ref a_t_text, .int t_length, .ref a_t_passing, .int t_at', .int t_fault', .int t_open', .int t_asked, .int t_byGun, .int t_prizeMost, .ref a_t_order, .ref a_t_times, .int t_listed])), (a_t_now, .inl (cI, 1562, .inl t_now)), (a_t_text, .inl (cB, 200, .inl t_text))] A) #[Value.ref a_t] s 0 0 A) (F0 m 53 ls []) := by
    intro v1_5 t_at_l5 t_fault_l5 t_open_l5 H locs ls h hP hD hS hl
    refine lv_iload_n hx hb dX11_part_53 rfl (lv_at hl 0 rfl) ?_
    obtain ⟨j0_, g_⟩ := Prod.mk.inj (Option.some.inj h)
    obtain ⟨j1_, g_⟩ := Prod.mk.inj g_
    obtain ⟨j2_, g_⟩ := Prod.mk.inj g_
    have j3_ := g_
    subst j0_
    subst j1_
    subst j2_
    subst j3_
    exact W.zret (v := (zb v1_5)) hx hb hr zz_n (fun t ht hW => ⟨⟨_, (), rfl, rfl, zPost.of hP hD hK ht hW [0, 1, 2] rfl rfl rfl⟩, hS.F ht⟩) hS.2.2 dX11_part_54
  have L5 : ∀ (n : Nat) (v1_5 : Bool) (t_at_l5 : Int32) (t_fault_l5 : Int32) (t_open_l5 : Int32) (H : Heap) (locs : List Loc) (ls : Array Slot), fX11_part_L5 N T t_length t_asked t_now t_text (fun (v1_5 : Bool) (t_at_l5 : Int32) (t_fault_l5 : Int32) (t_open_l5 : Int32) => some (v1_5, t_at_l5, t_fault_l5, t_open_l5)) n v1_5 t_at_l5 t_fault_l5 t_open_l5 = some (b0, t_at', t_fault', t_open') → va_P D vwCl [(a_t, .inr (11, [.int t_thrown, .ref a_t_now, .ref a_t_kept, .int t_isKept, .ref a_t_text, .int t_length, .ref a_t_passing, .int t_at_l5, .int t_fault_l5, .int t_open_l5, .int t_asked, .int t_byGun, .int t_prizeMost, .ref a_t_order, .ref a_t_times, .int t_listed])), (a_t_now, .inl (cI, 1562, .inl t_now)), (a_t_text, .inl (cB, 200, .inl t_text))] H → va_D A [(a_t, .inr (11, [.int t_thrown, .ref a_t_now, .ref a_t_kept, .int t_isKept, .ref a_t_text, .int t_length, .ref a_t_passing, .int t_at_l5, .int t_fault_l5, .int t_open_l5, .int t_asked, .int t_byGun, .int t_prizeMost, .ref a_t_order, .ref a_t_times, .int t_listed])), (a_t_now, .inl (cI, 1562, .inl t_now)), (a_t_text, .inl (cB, 200, .inl t_text))] → va_S A s.heap H locs → lv_has ls 3 [(1, .int (zb v1_5)), (0, .ref a_t)] → W p l e (headSpec wsX11_part ({ frames := 24, cells := 0, slots := 0, locals := 550 } : Room)).room s m #[Value.ref a_t] below meth c H locs 0 0 (MQ below (zQi (zb b0) D (zT cB cI cZ) [(a_t, .inr (11, [.int t_thrown, .ref a_t_now, .ref a_t_kept, .int t_isKept, .ref a_t_text, .int t_length, .ref a_t_passing, .int t_at', .int t_fault', .int t_open', .int t_asked, .int t_byGun, .int t_prizeMost, .ref a_t_order, .ref a_t_times, .int t_listed])), (a_t_now, .inl (cI, 1562, .inl t_now)), (a_t_text, .inl (cB, 200, .inl t_text))] A) #[Value.ref a_t] s 0 0 A) (F0 m 5 ls []) := by
    intro n
    induction n with
    | zero => intro _ _ _ _ H locs ls h hP hD hS hl; cases h
    | succ n5 ih5 =>
      intro v1_5 t_at_l5 t_fault_l5 t_open_l5 H locs ls h hP hD hS hl
      rw [fX11_part_L5.eq_2] at h
      refine lv_aload_n hx hb dX11_part_5 rfl (lv_at hl 1 rfl) ?_
      obtain ⟨b6, e7, h⟩ := zz_b h
      refine zVi (As := []) (rest := []) (C := RX11) (wr := [(a_t_now, .inl (cI, 1562, .inl t_now)), (a_t_text, .inl (cB, 200, .inl t_text))]) [0] [1, 2] 0 ⟨hx, hb, hml, hown, hts⟩ (mX11_isFine l D cB cI cZ a_t a_t_now a_t_kept a_t_text a_t_passing a_t_order a_t_times t_thrown t_isKept t_length t_at_l5 t_fault_l5 t_open_l5 t_asked t_byGun t_prizeMost t_listed H.size b6 e7) (cwV 0 hts gX11_part_X11_isFine rfl rfl rfl (by decide +kernel) ⟨Nat.le_of_ble_eq_true rfl, Nat.le_of_ble_eq_true rfl⟩) hK hN hZ hP hD hS hA rfl rfl rfl rfl rfl rfl rfl rfl hl.1 rfl (lv_room (Nat.le_of_ble_eq_true rfl)) dX11_part_6 ⟨Nat.le_of_ble_eq_true rfl, Nat.le_of_ble_eq_true rfl⟩ (fun H locs hP hD hS => ?_)
      have hP : va_P D vwCl [(a_t_now, .inl (cI, 1562, .inl t_now)), (a_t_text, .inl (cB, 200, .inl t_text)), (a_t, .inr (11, [.int t_thrown, .ref a_t_now, .ref a_t_kept, .int t_isKept, .ref a_t_text, .int t_length, .ref a_t_passing, .int t_at_l5, .int t_fault_l5, .int t_open_l5, .int t_asked, .int t_byGun, .int t_prizeMost, .ref a_t_order, .ref a_t_times, .int t_listed]))] H := hP
      have hD : va_D A [(a_t_now, .inl (cI, 1562, .inl t_now)), (a_t_text, .inl (cB, 200, .inl t_text)), (a_t, .inr (11, [.int t_thrown, .ref a_t_now, .ref a_t_kept, .int t_isKept, .ref a_t_text, .int t_length, .ref a_t_passing, .int t_at_l5, .int t_fault_l5, .int t_open_l5, .int t_asked, .int t_byGun, .int t_prizeMost, .ref a_t_order, .ref a_t_times, .int t_listed]))] := hD
      refine lv_if_eq (tgt := 53) hx hb dX11_part_9 (by decide) (fun c8 => ?_) (fun c8 => ?_)
      · have h := zz_t h c8
        exact X5_53 v1_5 t_at_l5 t_fault_l5 t_open_l5 _ _ _ h (hP.sub [2, 0, 1] rfl) (hD.sub [2, 0, 1] rfl rfl) hS (lv_sub hl [0, 1] rfl)
      · have h := zz_f h c8
        refine lv_aload_n hx hb dX11_part_12 rfl (lv_at hl 1 rfl) ?_
        obtain ⟨⟨r9, t_at_r10⟩, e11, h⟩ := zz_b h
        dsimp only at h
        refine zVi (As := []) (rest := []) (C := RX11) (wr := [(a_t_now, .inl (cI, 1562, .inl t_now))]) [2, 1] [0] 0 ⟨hx, hb, hml, hown, hts⟩ (mX11_look l D cB cI cZ a_t a_t_now a_t_kept a_t_text a_t_passing a_t_order a_t_times t_thrown t_isKept t_length t_at_l5 t_fault_l5 t_open_l5 t_asked t_byGun t_prizeMost t_listed t_text H.size N r9 t_at_r10 e11) (cwV 0 hts gX11_part_X11_look rfl rfl rfl (by decide +kernel) ⟨Nat.le_of_ble_eq_true rfl, Nat.le_of_ble_eq_true rfl⟩) hK hN hZ hP hD hS hA rfl rfl rfl rfl rfl rfl rfl rfl hl.1 rfl (lv_room (Nat.le_of_ble_eq_true rfl)) dX11_part_13 ⟨Nat.le_of_ble_eq_true rfl, Nat.le_of_ble_eq_true rfl⟩ (fun H locs hP hD hS => ?_)
        have hP : va_P D vwCl [(a_t_now, .inl (cI, 1562, .inl t_now)), (a_t, .inr (11, [.int t_thrown, .ref a_t_now, .ref a_t_kept, .int t_isKept, .ref a_t_text, .int t_length, .ref a_t_passing, .int t_at_r10, .int t_fault_l5, .int t_open_l5, .int t_asked, .int t_byGun, .int t_prizeMost, .ref a_t_order, .ref a_t_times, .int t_listed])), (a_t_text, .inl (cB, 200, .inl t_text))] H := hP
        have hD : va_D A [(a_t_now, .inl (cI, 1562, .inl t_now)), (a_t, .inr (11, [.int t_thrown, .ref a_t_now, .ref a_t_kept, .int t_isKept, .ref a_t_text, .int t_length, .ref a_t_passing, .int t_at_r10, .int t_fault_l5, .int t_open_l5, .int t_asked, .int t_byGun, .int t_prizeMost, .ref a_t_order, .ref a_t_times, .int t_listed])), (a_t_text, .inl (cB, 200, .inl t_text))] := hD
        refine lv_bipush (v := (nI 38)) hx hb dX11_part_16 rfl ?_
        refine lv_icmp_ne (tgt := 53) hx hb dX11_part_18 (by decide) (fun c12 => ?_) (fun c12 => ?_)
        · have h := zz_f h c12
          exact X5_53 v1_5 t_at_r10 t_fault_l5 t_open_l5 _ _ _ h (hP.sub [1, 0, 2] rfl) (hD.sub [1, 0, 2] rfl rfl) hS (lv_sub hl [0, 1] rfl)
        · have h := zz_t h c12
          refine lv_aload_n hx hb dX11_part_21 rfl (lv_at hl 1 rfl) ?_
          refine lv_dup hx hb dX11_part_22 rfl ?_
          refine va_get (D := D) (ci := 11) (C := RX11) (T := TX11) (N := 16) hx hb hts qX11_part_X11 hown hK hP 1 rfl rfl 7 (by decide) (hts _ kX11_part_0) (fun _ h9 => h9) rfl dX11_part_23 ?_
          refine lv_iconst (v := (nI 1)) hx hb dX11_part_26 rfl ?_
          refine lv_iadd hx hb dX11_part_27 ?_
          refine va_put (D := D) (ci := 11) (ty := .int) (C := RX11) (T := TX11) (N := 16) hx hb hts qX11_part_X11 tyX11 tyX11_ok nmX11 hown hK hP hD hS 1 rfl rfl 7 (by decide) (hts _ kX11_part_0) (fun _ h9 => h9) rfl (by decide +kernel) rfl (by first | rfl | exact zz_fit) (Nat.le_of_ble_eq_true rfl) dX11_part_28 (fun H locs hP hD hS => ?_)
          have hP : va_P D vwCl [(a_t_now, .inl (cI, 1562, .inl t_now)), (a_t, .inr (11, [.int t_thrown, .ref a_t_now, .ref a_t_kept, .int t_isKept, .ref a_t_text, .int t_length, .ref a_t_passing, .int (t_at_r10 + (nI 1)), .int t_fault_l5, .int t_open_l5, .int t_asked, .int t_byGun, .int t_prizeMost, .ref a_t_order, .ref a_t_times, .int t_listed])), (a_t_text, .inl (cB, 200, .inl t_text))] H := hP
          have hD : va_D A [(a_t_now, .inl (cI, 1562, .inl t_now)), (a_t, .inr (11, [.int t_thrown, .ref a_t_now, .ref a_t_kept, .int t_isKept, .ref a_t_text, .int t_length, .ref a_t_passing, .int (t_at_r10 + (nI 1)), .int t_fault_l5, .int t_open_l5, .int t_asked, .int t_byGun, .int t_prizeMost, .ref a_t_order, .ref a_t_times, .int t_listed])), (a_t_text, .inl (cB, 200, .inl t_text))] := hD
          refine lv_aload_n hx hb dX11_part_31 rfl (lv_at hl 1 rfl) ?_
          obtain ⟨⟨b13, t_at_r14, t_fault_r15, t_open_r16⟩, e17, h⟩ := zz_b h
          dsimp only at h
          refine zVi (As := []) (rest := []) (C := RX11) (wr := []) [1, 0, 2] [] 0 ⟨hx, hb, hml, hown, hts⟩ (mX11_unit_7 l D cB cI cZ a_t a_t_now a_t_kept a_t_text a_t_passing a_t_order a_t_times t_thrown t_isKept t_length (t_at_r10 + (nI 1)) t_fault_l5 t_open_l5 t_asked t_byGun t_prizeMost t_listed t_now t_text H.size N T hT b13 t_at_r14 t_fault_r15 t_open_r16 e17) (cwV 0 hts gX11_part_X11_unit rfl rfl rfl (by decide +kernel) ⟨Nat.le_of_ble_eq_true rfl, Nat.le_of_ble_eq_true rfl⟩) hK hN hZ hP hD hS hA rfl rfl rfl rfl rfl rfl rfl rfl hl.1 rfl (lv_room (Nat.le_of_ble_eq_true rfl)) dX11_part_32 ⟨Nat.le_of_ble_eq_true rfl, Nat.le_of_ble_eq_true rfl⟩ (fun H locs hP hD hS => ?_)
          have hP : va_P D vwCl [(a_t, .inr (11, [.int t_thrown, .ref a_t_now, .ref a_t_kept, .int t_isKept, .ref a_t_text, .int t_length, .ref a_t_passing, .int t_at_r14, .int t_fault_r15, .int t_open_r16, .int t_asked, .int t_byGun, .int t_prizeMost, .ref a_t_order, .ref a_t_times, .int t_listed])), (a_t_now, .inl (cI, 1562, .inl t_now)), (a_t_text, .inl (cB, 200, .inl t_text))] H := hP
          have hD : va_D A [(a_t, .inr (11, [.int t_thrown, .ref a_t_now, .ref a_t_kept, .int t_isKept, .ref a_t_text, .int t_length, .ref a_t_passing, .int t_at_r14, .int t_fault_r15, .int t_open_r16, .int t_asked, .int t_byGun, .int t_prizeMost, .ref a_t_order, .ref a_t_times, .int t_listed])), (a_t_now, .inl (cI, 1562, .inl t_now)), (a_t_text, .inl (cB, 200, .inl t_text))] := hD
          refine lv_istore_n (lv' := [(2, .int (zb b13)), (1, .int (zb v1_5)), (0, .ref a_t)]) hx hb dX11_part_35 rfl hl (by decide) rfl (fun ls hl => ?_)
          refine lv_iload_n hx hb dX11_part_36 rfl (lv_at hl 1 rfl) ?_
          refine lv_if_eq (tgt := 48) hx hb dX11_part_37 (by decide) (fun c18 => ?_) (fun c18 => ?_)
          · have h := zz_t h c18
            refine lv_iconst (v := (nI 0)) hx hb dX11_part_48 rfl ?_
            refine lv_istore_n (lv' := [(1, .int (nI 0)), (2, .int (zb b13)), (0, .ref a_t)]) hx hb dX11_part_49 rfl hl (by decide) rfl (fun ls hl => ?_)
            refine lv_goto (tgt := 5) hx hb dX11_part_50 (by decide) ?_
            exact ih5 false t_at_r14 t_fault_r15 t_open_r16 _ _ _ h (hP.sub [0, 1, 2] rfl) (hD.sub [0, 1, 2] rfl rfl) hS (lv_sub hl [0, 2] rfl)
          · have h := zz_f h c18
            refine lv_iload_n hx hb dX11_part_40 rfl (lv_at hl 0 rfl) ?_
            refine lv_if_eq (tgt := 48) hx hb dX11_part_41 (by decide) (fun c19 => ?_) (fun c19 => ?_)
            · have h := zz_t h c19
              refine lv_iconst (v := (nI 0)) hx hb dX11_part_48 rfl ?_
              refine lv_istore_n (lv' := [(1, .int (nI 0)), (2, .int (zb b13)), (0, .ref a_t)]) hx hb dX11_part_49 rfl hl (by decide) rfl (fun ls hl => ?_)
              refine lv_goto (tgt := 5) hx hb dX11_part_50 (by decide) ?_
              exact ih5 false t_at_r14 t_fault_r15 t_open_r16 _ _ _ h (hP.sub [0, 1, 2] rfl) (hD.sub [0, 1, 2] rfl rfl) hS (lv_sub hl [0, 2] rfl)
            · have h := zz_f h c19
              refine lv_iconst (v := (nI 1)) hx hb dX11_part_44 rfl ?_
              refine lv_goto (tgt := 49) hx hb dX11_part_45 (by decide) ?_
              refine lv_istore_n (lv' := [(1, .int (nI 1)), (2, .int (zb b13)), (0, .ref a_t)]) hx hb dX11_part_49 rfl hl (by decide) rfl (fun ls hl => ?_)
              refine lv_goto (tgt := 5) hx hb dX11_part_50 (by decide) ?_
              exact ih5 true t_at_r14 t_fault_r15 t_open_r16 _ _ _ h (hP.sub [0, 1, 2] rfl) (hD.sub [0, 1, 2] rfl rfl) hS (lv_sub hl [0, 2] rfl)
  exact L5 N b1 t_at_r2 t_fault_r3 t_open_r4 _ _ _ h hP hD hS hl
set_option maxHeartbeats 4000000 in
set_option maxRecDepth 100000 in
theorem mX11_tests_7 (l : Launch) (D : va_G) (cB cI cZ : ClassId) (a_t : Nat) (a_t_now : Nat) (a_t_kept : Nat) (a_t_text : Nat) (a_t_passing : Nat) (a_t_order : Nat) (a_t_times : Nat) (t_thrown : Int32) (t_isKept : Int32) (t_length : Int32) (t_at : Int32) (t_fault : Int32) (t_open : Int32) (t_asked : Int32) (t_byGun : Int32) (t_prizeMost : Int32) (t_listed : Int32) (t_now : Nat → Int32) (t_text : Nat → Int32) (sz : Nat) (N : Nat) (b0 : Bool) (t_at' : Int32) (t_fault' : Int32) (t_open' : Int32) (h : fX11_testsD N 8 t_asked t_at t_fault t_length t_open t_now t_text = some (b0, t_at', t_fault', t_open')) : Met l yX11_tests wsX11_tests ({ frames := 25, cells := 0, slots := 0, locals := 572 } : Room) (va_Pc [.ref a_t] (zPre D (zT cB cI cZ) [(a_t, .inr (11, [.int t_thrown, .ref a_t_now, .ref a_t_kept, .int t_isKept, .ref a_t_text, .int t_length, .ref a_t_passing, .int t_at, .int t_fault, .int t_open, .int t_asked, .int t_byGun, .int t_prizeMost, .ref a_t_order, .ref a_t_times, .int t_listed])), (a_t_now, .inl (cI, 1562, .inl t_now)), (a_t_text, .inl (cB, 200, .inl t_text))] sz)) (zQi (zb b0) D (zT cB cI cZ) [(a_t, .inr (11, [.int t_thrown, .ref a_t_now, .ref a_t_kept, .int t_isKept, .ref a_t_text, .int t_length, .ref a_t_passing, .int t_at', .int t_fault', .int t_open', .int t_asked, .int t_byGun, .int t_prizeMost, .ref a_t_order, .ref a_t_times, .int t_listed])), (a_t_now, .inl (cI, 1562, .inl t_now)), (a_t_text, .inl (cB, 200, .inl t_text))] (va_A [(a_t, .inr (11, [.int t_thrown, .ref a_t_now, .ref a_t_kept, .int t_isKept, .ref a_t_text, .int t_length, .ref a_t_passing, .int t_at, .int t_fault, .int t_open, .int t_asked, .int t_byGun, .int t_prizeMost, .ref a_t_order, .ref a_t_times, .int t_listed])), (a_t_now, .inl (cI, 1562, .inl t_now)), (a_t_text, .inl (cB, 200, .inl t_text))] sz)) 0 0 (va_A [(a_t, .inr (11, [.int t_thrown, .ref a_t_now, .ref a_t_kept, .int t_isKept, .ref a_t_text, .int t_length, .ref a_t_passing, .int t_at, .int t_fault, .int t_open, .int t_asked, .int t_byGun, .int t_prizeMost, .ref a_t_order, .ref a_t_times, .int t_listed])), (a_t_now, .inl (cI, 1562, .inl t_now)), (a_t_text, .inl (cB, 200, .inl t_text))] sz) := by
  refine Met.ofW (cc := cX11_tests) (maxL := 3) (ret := (some .boolean)) (by decide) rfl ?_
  intro p e s m args below meth c s₁ B hml hv
  obtain ⟨rfl, hsz, hP, hK, hN, hZ, hD0⟩ := hv
  have hx := B.exec
  have hb := B.bytes
  have hr := B.returns
  have hts := atoms_spec (ws := wsX11_tests) B.pre
  have hown : s.vm.findClass RX11 = some m.cls := findClass_of_methodNamed B.named
  have hlocks := B.notSynchronized
  subst hsz
  have hD := hD0.self (sz := s.heap.size)
  generalize hAe : va_A [(a_t, .inr (11, [.int t_thrown, .ref a_t_now, .ref a_t_kept, .int t_isKept, .ref a_t_text, .int t_length, .ref a_t_passing, .int t_at, .int t_fault, .int t_open, .int t_asked, .int t_byGun, .int t_prizeMost, .ref a_t_order, .ref a_t_times, .int t_listed])), (a_t_now, .inl (cI, 1562, .inl t_now)), (a_t_text, .inl (cB, 200, .inl t_text))] s.heap.size = A at hD hZ ⊢
  have hA : ∀ q : Nat, s.heap.size ≤ q → A q := fun q h => by rw [← hAe]; exact Or.inr h
  have hS : va_S A s.heap s.heap [] := va_S.rf
  have hl := lv_entry ([.ref a_t]) (n := 3) (Nat.le_of_ble_eq_true rfl)
  rw [lg_entry_eq]
  generalize (lg_sl ([.ref a_t]) ++ List.replicate (3 - (lg_sl ([.ref a_t])).length) Slot.unset).toArray = ls at hl ⊢
  have hl : lv_has ls 3 [(0, .ref a_t)] := hl
  obtain ⟨T, hT⟩ : ∃ T, T = fX11_testsD N 7 := ⟨_, rfl⟩; have h : fX11_tests_ T N t_asked t_at t_fault t_length t_open t_now t_text = some (b0, t_at', t_fault', t_open') := by rw [hT]; exact h
  unfold fX11_tests_ at h
  refine lv_aload_n hx hb dX11_tests_0 rfl (lv_at hl 0 rfl) ?_
  obtain ⟨⟨b1, t_at_r2, t_fault_r3, t_open_r4⟩, e5, h⟩ := zz_b h
  dsimp only at h
  refine zVi (As := []) (rest := []) (C := RX11) (wr := []) [0, 1, 2] [] 0 ⟨hx, hb, hml, hown, hts⟩ (mX11_part_7 l D cB cI cZ a_t a_t_now a_t_kept a_t_text a_t_passing a_t_order a_t_times t_thrown t_isKept t_length t_at t_fault t_open t_asked t_byGun t_prizeMost t_listed t_now t_text s.heap.size N T hT b1 t_at_r2 t_fault_r3 t_open_r4 e5) (cwV 0 hts gX11_tests_X11_part rfl rfl rfl (by decide +kernel) ⟨Nat.le_of_ble_eq_true rfl, Nat.le_of_ble_eq_true rfl⟩) hK hN hZ hP hD hS hA rfl rfl rfl rfl rfl rfl rfl rfl hl.1 rfl (lv_room (Nat.le_of_ble_eq_true rfl)) dX11_tests_1 ⟨Nat.le_of_ble_eq_true rfl, Nat.le_of_ble_eq_true rfl⟩ (fun H locs hP hD hS => ?_)
  have hP : va_P D vwCl [(a_t, .inr (11, [.int t_thrown, .ref a_t_now, .ref a_t_kept, .int t_isKept, .ref a_t_text, .int t_length, .ref a_t_passing, .int t_at_r2, .int t_fault_r3, .int t_open_r4, .int t_asked, .int t_byGun, .int t_prizeMost, .ref a_t_order, .ref a_t_times, .int t_listed])), (a_t_now, .inl (cI, 1562, .inl t_now)), (a_t_text, .inl (cB, 200, .inl t_text))] H := hP
  have hD : va_D A [(a_t, .inr (11, [.int t_thrown, .ref a_t_now, .ref a_t_kept, .int t_isKept, .ref a_t_text, .int t_length, .ref a_t_passing, .int t_at_r2, .int t_fault_r3, .int t_open_r4, .int t_asked, .int t_byGun, .int t_prizeMost, .ref a_t_order, .ref a_t_times, .int t_listed])), (a_t_now, .inl (cI, 1562, .inl t_now)), (a_t_text, .inl (cB, 200, .inl t_text))] := hD
  refine lv_istore_n (lv' := [(1, .int (zb b1)), (0, .ref a_t)]) hx hb dX11_tests_4 rfl hl (by decide) rfl (fun ls hl => ?_)
  have X5_53 : ∀ (v1_5 : Bool) (t_at_l5 : Int32) (t_fault_l5 : Int32) (t_open_l5 : Int32) (H : Heap) (locs : List Loc) (ls : Array Slot), some (v1_5, t_at_l5, t_fault_l5, t_open_l5) = some (b0, t_at', t_fault', t_open') → va_P D vwCl [(a_t, .inr (11, [.int t_thrown, .ref a_t_now, .ref a_t_kept, .int t_isKept, .ref a_t_text, .int t_length, .ref a_t_passing, .int t_at_l5, .int t_fault_l5, .int t_open_l5, .int t_asked, .int t_byGun, .int t_prizeMost, .ref a_t_order, .ref a_t_times, .int t_listed])), (a_t_now, .inl (cI, 1562, .inl t_now)), (a_t_text, .inl (cB, 200, .inl t_text))] H → va_D A [(a_t, .inr (11, [.int t_thrown, .ref a_t_now, .ref a_t_kept, .int t_isKept, .ref a_t_text, .int t_length, .ref a_t_passing, .int t_at_l5, .int t_fault_l5, .int t_open_l5, .int t_asked, .int t_byGun, .int t_prizeMost, .ref a_t_order, .ref a_t_times, .int t_listed])), (a_t_now, .inl (cI, 1562, .inl t_now)), (a_t_text, .inl (cB, 200, .inl t_text))] → va_S A s.heap H locs → lv_has ls 3 [(1, .int (zb v1_5)), (0, .ref a_t)] → W p l e (headSpec wsX11_tests ({ frames := 25, cells := 0, slots := 0, locals := 572 } : Room)).room s m #[Value.ref a_t] below meth c H locs 0 0 (MQ below (zQi (zb b0) D (zT cB cI cZ) [(a_t, .inr (11, [.int t_thrown, .ref a_t_now, .ref a_t_kept, .int t_isKept, .ref a_t_text, .int t_length, .ref a_t_passing, .int t_at', .int t_fault', .int t_open', .int t_asked, .int t_byGun, .int t_prizeMost, .ref a_t_order, .ref a_t_times, .int t_listed])), (a_t_now, .inl (cI, 1562, .inl t_now)), (a_t_text, .inl (cB, 200, .inl t_text))] A) #[Value.ref a_t] s 0 0 A) (F0 m 53 ls []) := by
    intro v1_5 t_at_l5 t_fault_l5 t_open_l5 H locs ls h hP hD hS hl
    refine lv_iload_n hx hb dX11_tests_53 rfl (lv_at hl 0 rfl) ?_
    obtain ⟨j0_, g_⟩ := Prod.mk.inj (Option.some.inj h)
    obtain ⟨j1_, g_⟩ := Prod.mk.inj g_
    obtain ⟨j2_, g_⟩ := Prod.mk.inj g_
    have j3_ := g_
    subst j0_
    subst j1_
    subst j2_
    subst j3_
    exact W.zret (v := (zb v1_5)) hx hb hr zz_n (fun t ht hW => ⟨⟨_, (), rfl, rfl, zPost.of hP hD hK ht hW [0, 1, 2] rfl rfl rfl⟩, hS.F ht⟩) hS.2.2 dX11_tests_54
  have L5 : ∀ (n : Nat) (v1_5 : Bool) (t_at_l5 : Int32) (t_fault_l5 : Int32) (t_open_l5 : Int32) (H : Heap) (locs : List Loc) (ls : Array Slot), fX11_tests_L5 N T t_length t_asked t_now t_text (fun (v1_5 : Bool) (t_at_l5 : Int32) (t_fault_l5 : Int32) (t_open_l5 : Int32) => some (v1_5, t_at_l5, t_fault_l5, t_open_l5)) n v1_5 t_at_l5 t_fault_l5 t_open_l5 = some (b0, t_at', t_fault', t_open') → va_P D vwCl [(a_t, .inr (11, [.int t_thrown, .ref a_t_now, .ref a_t_kept, .int t_isKept, .ref a_t_text, .int t_length, .ref a_t_passing, .int t_at_l5, .int t_fault_l5, .int t_open_l5, .int t_asked, .int t_byGun, .int t_prizeMost, .ref a_t_order, .ref a_t_times, .int t_listed])), (a_t_now, .inl (cI, 1562, .inl t_now)), (a_t_text, .inl (cB, 200, .inl t_text))] H → va_D A [(a_t, .inr (11, [.int t_thrown, .ref a_t_now, .ref a_t_kept, .int t_isKept, .ref a_t_text, .int t_length, .ref a_t_passing, .int t_at_l5, .int t_fault_l5, .int t_open_l5, .int t_asked, .int t_byGun, .int t_prizeMost, .ref a_t_order, .ref a_t_times, .int t_listed])), (a_t_now, .inl (cI, 1562, .inl t_now)), (a_t_text, .inl (cB, 200, .inl t_text))] → va_S A s.heap H locs → lv_has ls 3 [(1, .int (zb v1_5)), (0, .ref a_t)] → W p l e (headSpec wsX11_tests ({ frames := 25, cells := 0, slots := 0, locals := 572 } : Room)).room s m #[Value.ref a_t] below meth c H locs 0 0 (MQ below (zQi (zb b0) D (zT cB cI cZ) [(a_t, .inr (11, [.int t_thrown, .ref a_t_now, .ref a_t_kept, .int t_isKept, .ref a_t_text, .int t_length, .ref a_t_passing, .int t_at', .int t_fault', .int t_open', .int t_asked, .int t_byGun, .int t_prizeMost, .ref a_t_order, .ref a_t_times, .int t_listed])), (a_t_now, .inl (cI, 1562, .inl t_now)), (a_t_text, .inl (cB, 200, .inl t_text))] A) #[Value.ref a_t] s 0 0 A) (F0 m 5 ls []) := by
    intro n
    induction n with
    | zero => intro _ _ _ _ H locs ls h hP hD hS hl; cases h
    | succ n5 ih5 =>
      intro v1_5 t_at_l5 t_fault_l5 t_open_l5 H locs ls h hP hD hS hl
      rw [fX11_tests_L5.eq_2] at h
      refine lv_aload_n hx hb dX11_tests_5 rfl (lv_at hl 1 rfl) ?_
      obtain ⟨b6, e7, h⟩ := zz_b h
      refine zVi (As := []) (rest := []) (C := RX11) (wr := [(a_t_now, .inl (cI, 1562, .inl t_now)), (a_t_text, .inl (cB, 200, .inl t_text))]) [0] [1, 2] 0 ⟨hx, hb, hml, hown, hts⟩ (mX11_isFine l D cB cI cZ a_t a_t_now a_t_kept a_t_text a_t_passing a_t_order a_t_times t_thrown t_isKept t_length t_at_l5 t_fault_l5 t_open_l5 t_asked t_byGun t_prizeMost t_listed H.size b6 e7) (cwV 0 hts gX11_tests_X11_isFine rfl rfl rfl (by decide +kernel) ⟨Nat.le_of_ble_eq_true rfl, Nat.le_of_ble_eq_true rfl⟩) hK hN hZ hP hD hS hA rfl rfl rfl rfl rfl rfl rfl rfl hl.1 rfl (lv_room (Nat.le_of_ble_eq_true rfl)) dX11_tests_6 ⟨Nat.le_of_ble_eq_true rfl, Nat.le_of_ble_eq_true rfl⟩ (fun H locs hP hD hS => ?_)
      have hP : va_P D vwCl [(a_t_now, .inl (cI, 1562, .inl t_now)), (a_t_text, .inl (cB, 200, .inl t_text)), (a_t, .inr (11, [.int t_thrown, .ref a_t_now, .ref a_t_kept, .int t_isKept, .ref a_t_text, .int t_length, .ref a_t_passing, .int t_at_l5, .int t_fault_l5, .int t_open_l5, .int t_asked, .int t_byGun, .int t_prizeMost, .ref a_t_order, .ref a_t_times, .int t_listed]))] H := hP
      have hD : va_D A [(a_t_now, .inl (cI, 1562, .inl t_now)), (a_t_text, .inl (cB, 200, .inl t_text)), (a_t, .inr (11, [.int t_thrown, .ref a_t_now, .ref a_t_kept, .int t_isKept, .ref a_t_text, .int t_length, .ref a_t_passing, .int t_at_l5, .int t_fault_l5, .int t_open_l5, .int t_asked, .int t_byGun, .int t_prizeMost, .ref a_t_order, .ref a_t_times, .int t_listed]))] := hD
      refine lv_if_eq (tgt := 53) hx hb dX11_tests_9 (by decide) (fun c8 => ?_) (fun c8 => ?_)
      · have h := zz_t h c8
        exact X5_53 v1_5 t_at_l5 t_fault_l5 t_open_l5 _ _ _ h (hP.sub [2, 0, 1] rfl) (hD.sub [2, 0, 1] rfl rfl) hS (lv_sub hl [0, 1] rfl)
      · have h := zz_f h c8
        refine lv_aload_n hx hb dX11_tests_12 rfl (lv_at hl 1 rfl) ?_
        obtain ⟨⟨r9, t_at_r10⟩, e11, h⟩ := zz_b h
        dsimp only at h
        refine zVi (As := []) (rest := []) (C := RX11) (wr := [(a_t_now, .inl (cI, 1562, .inl t_now))]) [2, 1] [0] 0 ⟨hx, hb, hml, hown, hts⟩ (mX11_look l D cB cI cZ a_t a_t_now a_t_kept a_t_text a_t_passing a_t_order a_t_times t_thrown t_isKept t_length t_at_l5 t_fault_l5 t_open_l5 t_asked t_byGun t_prizeMost t_listed t_text H.size N r9 t_at_r10 e11) (cwV 0 hts gX11_tests_X11_look rfl rfl rfl (by decide +kernel) ⟨Nat.le_of_ble_eq_true rfl, Nat.le_of_ble_eq_true rfl⟩) hK hN hZ hP hD hS hA rfl rfl rfl rfl rfl rfl rfl rfl hl.1 rfl (lv_room (Nat.le_of_ble_eq_true rfl)) dX11_tests_13 ⟨Nat.le_of_ble_eq_true rfl, Nat.le_of_ble_eq_true rfl⟩ (fun H locs hP hD hS => ?_)
        have hP : va_P D vwCl [(a_t_now, .inl (cI, 1562, .inl t_now)), (a_t, .inr (11, [.int t_thrown, .ref a_t_now, .ref a_t_kept, .int t_isKept, .ref a_t_text, .int t_length, .ref a_t_passing, .int t_at_r10, .int t_fault_l5, .int t_open_l5, .int t_asked, .int t_byGun, .int t_prizeMost, .ref a_t_order, .ref a_t_times, .int t_listed])), (a_t_text, .inl (cB, 200, .inl t_text))] H := hP
        have hD : va_D A [(a_t_now, .inl (cI, 1562, .inl t_now)), (a_t, .inr (11, [.int t_thrown, .ref a_t_now, .ref a_t_kept, .int t_isKept, .ref a_t_text, .int t_length, .ref a_t_passing, .int t_at_r10, .int t_fault_l5, .int t_open_l5, .int t_asked, .int t_byGun, .int t_prizeMost, .ref a_t_order, .ref a_t_times, .int t_listed])), (a_t_text, .inl (cB, 200, .inl t_text))] := hD
        refine lv_bipush (v := (nI 124)) hx hb dX11_tests_16 rfl ?_
        refine lv_icmp_ne (tgt := 53) hx hb dX11_tests_18 (by decide) (fun c12 => ?_) (fun c12 => ?_)
        · have h := zz_f h c12
          exact X5_53 v1_5 t_at_r10 t_fault_l5 t_open_l5 _ _ _ h (hP.sub [1, 0, 2] rfl) (hD.sub [1, 0, 2] rfl rfl) hS (lv_sub hl [0, 1] rfl)
        · have h := zz_t h c12
          refine lv_aload_n hx hb dX11_tests_21 rfl (lv_at hl 1 rfl) ?_
          refine lv_dup hx hb dX11_tests_22 rfl ?_
          refine va_get (D := D) (ci := 11) (C := RX11) (T := TX11) (N := 16) hx hb hts qX11_tests_X11 hown hK hP 1 rfl rfl 7 (by decide) (hts _ kX11_tests_0) (fun _ h9 => h9) rfl dX11_tests_23 ?_
          refine lv_iconst (v := (nI 1)) hx hb dX11_tests_26 rfl ?_
          refine lv_iadd hx hb dX11_tests_27 ?_
          refine va_put (D := D) (ci := 11) (ty := .int) (C := RX11) (T := TX11) (N := 16) hx hb hts qX11_tests_X11 tyX11 tyX11_ok nmX11 hown hK hP hD hS 1 rfl rfl 7 (by decide) (hts _ kX11_tests_0) (fun _ h9 => h9) rfl (by decide +kernel) rfl (by first | rfl | exact zz_fit) (Nat.le_of_ble_eq_true rfl) dX11_tests_28 (fun H locs hP hD hS => ?_)
          have hP : va_P D vwCl [(a_t_now, .inl (cI, 1562, .inl t_now)), (a_t, .inr (11, [.int t_thrown, .ref a_t_now, .ref a_t_kept, .int t_isKept, .ref a_t_text, .int t_length, .ref a_t_passing, .int (t_at_r10 + (nI 1)), .int t_fault_l5, .int t_open_l5, .int t_asked, .int t_byGun, .int t_prizeMost, .ref a_t_order, .ref a_t_times, .int t_listed])), (a_t_text, .inl (cB, 200, .inl t_text))] H := hP
          have hD : va_D A [(a_t_now, .inl (cI, 1562, .inl t_now)), (a_t, .inr (11, [.int t_thrown, .ref a_t_now, .ref a_t_kept, .int t_isKept, .ref a_t_text, .int t_length, .ref a_t_passing, .int (t_at_r10 + (nI 1)), .int t_fault_l5, .int t_open_l5, .int t_asked, .int t_byGun, .int t_prizeMost, .ref a_t_order, .ref a_t_times, .int t_listed])), (a_t_text, .inl (cB, 200, .inl t_text))] := hD
          refine lv_aload_n hx hb dX11_tests_31 rfl (lv_at hl 1 rfl) ?_
          obtain ⟨⟨b13, t_at_r14, t_fault_r15, t_open_r16⟩, e17, h⟩ := zz_b h
          dsimp only at h
          refine zVi (As := []) (rest := []) (C := RX11) (wr := []) [1, 0, 2] [] 0 ⟨hx, hb, hml, hown, hts⟩ (mX11_part_7 l D cB cI cZ a_t a_t_now a_t_kept a_t_text a_t_passing a_t_order a_t_times t_thrown t_isKept t_length (t_at_r10 + (nI 1)) t_fault_l5 t_open_l5 t_asked t_byGun t_prizeMost t_listed t_now t_text H.size N T hT b13 t_at_r14 t_fault_r15 t_open_r16 e17) (cwV 0 hts gX11_tests_X11_part rfl rfl rfl (by decide +kernel) ⟨Nat.le_of_ble_eq_true rfl, Nat.le_of_ble_eq_true rfl⟩) hK hN hZ hP hD hS hA rfl rfl rfl rfl rfl rfl rfl rfl hl.1 rfl (lv_room (Nat.le_of_ble_eq_true rfl)) dX11_tests_32 ⟨Nat.le_of_ble_eq_true rfl, Nat.le_of_ble_eq_true rfl⟩ (fun H locs hP hD hS => ?_)
          have hP : va_P D vwCl [(a_t, .inr (11, [.int t_thrown, .ref a_t_now, .ref a_t_kept, .int t_isKept, .ref a_t_text, .int t_length, .ref a_t_passing, .int t_at_r14, .int t_fault_r15, .int t_open_r16, .int t_asked, .int t_byGun, .int t_prizeMost, .ref a_t_order, .ref a_t_times, .int t_listed])), (a_t_now, .inl (cI, 1562, .inl t_now)), (a_t_text, .inl (cB, 200, .inl t_text))] H := hP
          have hD : va_D A [(a_t, .inr (11, [.int t_thrown, .ref a_t_now, .ref a_t_kept, .int t_isKept, .ref a_t_text, .int t_length, .ref a_t_passing, .int t_at_r14, .int t_fault_r15, .int t_open_r16, .int t_asked, .int t_byGun, .int t_prizeMost, .ref a_t_order, .ref a_t_times, .int t_listed])), (a_t_now, .inl (cI, 1562, .inl t_now)), (a_t_text, .inl (cB, 200, .inl t_text))] := hD
          refine lv_istore_n (lv' := [(2, .int (zb b13)), (1, .int (zb v1_5)), (0, .ref a_t)]) hx hb dX11_tests_35 rfl hl (by decide) rfl (fun ls hl => ?_)
          refine lv_iload_n hx hb dX11_tests_36 rfl (lv_at hl 1 rfl) ?_
          refine lv_if_ne (tgt := 44) hx hb dX11_tests_37 (by decide) (fun c18 => ?_) (fun c18 => ?_)
          · have h := zz_f h c18
            refine lv_iconst (v := (nI 1)) hx hb dX11_tests_44 rfl ?_
            refine lv_goto (tgt := 49) hx hb dX11_tests_45 (by decide) ?_
            refine lv_istore_n (lv' := [(1, .int (nI 1)), (2, .int (zb b13)), (0, .ref a_t)]) hx hb dX11_tests_49 rfl hl (by decide) rfl (fun ls hl => ?_)
            refine lv_goto (tgt := 5) hx hb dX11_tests_50 (by decide) ?_
            exact ih5 true t_at_r14 t_fault_r15 t_open_r16 _ _ _ h (hP.sub [0, 1, 2] rfl) (hD.sub [0, 1, 2] rfl rfl) hS (lv_sub hl [0, 2] rfl)
          · have h := zz_t h c18
            refine lv_iload_n hx hb dX11_tests_40 rfl (lv_at hl 0 rfl) ?_
            refine lv_if_eq (tgt := 48) hx hb dX11_tests_41 (by decide) (fun c19 => ?_) (fun c19 => ?_)
            · have h := zz_t h c19
              refine lv_iconst (v := (nI 0)) hx hb dX11_tests_48 rfl ?_
              refine lv_istore_n (lv' := [(1, .int (nI 0)), (2, .int (zb b13)), (0, .ref a_t)]) hx hb dX11_tests_49 rfl hl (by decide) rfl (fun ls hl => ?_)
              refine lv_goto (tgt := 5) hx hb dX11_tests_50 (by decide) ?_
              exact ih5 false t_at_r14 t_fault_r15 t_open_r16 _ _ _ h (hP.sub [0, 1, 2] rfl) (hD.sub [0, 1, 2] rfl rfl) hS (lv_sub hl [0, 2] rfl)
            · have h := zz_f h c19
              refine lv_iconst (v := (nI 1)) hx hb dX11_tests_44 rfl ?_
              refine lv_goto (tgt := 49) hx hb dX11_tests_45 (by decide) ?_
              refine lv_istore_n (lv' := [(1, .int (nI 1)), (2, .int (zb b13)), (0, .ref a_t)]) hx hb dX11_tests_49 rfl hl (by decide) rfl (fun ls hl => ?_)
              refine lv_goto (tgt := 5) hx hb dX11_tests_50 (by decide) ?_
              exact ih5 true t_at_r14 t_fault_r15 t_open_r16 _ _ _ h (hP.sub [0, 1, 2] rfl) (hD.sub [0, 1, 2] rfl rfl) hS (lv_sub hl [0, 2] rfl)
  exact L5 N b1 t_at_r2 t_fault_r3 t_open_r4 _ _ _ h hP hD hS hl
set_option maxHeartbeats 4000000 in
set_option maxRecDepth 100000 in
theorem mX11_unit_8 (l : Launch) (D : va_G) (cB cI cZ : ClassId) (a_t : Nat) (a_t_now : Nat) (a_t_kept : Nat) (a_t_text : Nat) (a_t_passing : Nat) (a_t_order : Nat) (a_t_times : Nat) (t_thrown : Int32) (t_isKept : Int32) (t_length : Int32) (t_at : Int32) (t_fault : Int32) (t_open : Int32) (t_asked : Int32) (t_byGun : Int32) (t_prizeMost : Int32) (t_listed : Int32) (t_now : Nat → Int32) (t_text : Nat → Int32) (sz : Nat) (N : Nat) (T : Int32 → Int32 → Int32 → Int32 → Int32 → (Nat → Int32) → (Nat → Int32) → Option (Bool × Int32 × Int32 × Int32)) (hT : T = fX11_testsD N 8) (b0 : Bool) (t_at' : Int32) (t_fault' : Int32) (t_open' : Int32) (h : fX11_unit T N t_asked t_at t_fault t_length t_open t_now t_text = some (b0, t_at', t_fault', t_open')) : Met l yX11_unit wsX11_unit ({ frames := 26, cells := 0, slots := 0, locals := 594 } : Room) (va_Pc [.ref a_t] (zPre D (zT cB cI cZ) [(a_t, .inr (11, [.int t_thrown, .ref a_t_now, .ref a_t_kept, .int t_isKept, .ref a_t_text, .int t_length, .ref a_t_passing, .int t_at, .int t_fault, .int t_open, .int t_asked, .int t_byGun, .int t_prizeMost, .ref a_t_order, .ref a_t_times, .int t_listed])), (a_t_now, .inl (cI, 1562, .inl t_now)), (a_t_text, .inl (cB, 200, .inl t_text))] sz)) (zQi (zb b0) D (zT cB cI cZ) [(a_t, .inr (11, [.int t_thrown, .ref a_t_now, .ref a_t_kept, .int t_isKept, .ref a_t_text, .int t_length, .ref a_t_passing, .int t_at', .int t_fault', .int t_open', .int t_asked, .int t_byGun, .int t_prizeMost, .ref a_t_order, .ref a_t_times, .int t_listed])), (a_t_now, .inl (cI, 1562, .inl t_now)), (a_t_text, .inl (cB, 200, .inl t_text))] (va_A [(a_t, .inr (11, [.int t_thrown, .ref a_t_now, .ref a_t_kept, .int t_isKept, .ref a_t_text, .int t_length, .ref a_t_passing, .int t_at, .int t_fault, .int t_open, .int t_asked, .int t_byGun, .int t_prizeMost, .ref a_t_order, .ref a_t_times, .int t_listed])), (a_t_now, .inl (cI, 1562, .inl t_now)), (a_t_text, .inl (cB, 200, .inl t_text))] sz)) 0 0 (va_A [(a_t, .inr (11, [.int t_thrown, .ref a_t_now, .ref a_t_kept, .int t_isKept, .ref a_t_text, .int t_length, .ref a_t_passing, .int t_at, .int t_fault, .int t_open, .int t_asked, .int t_byGun, .int t_prizeMost, .ref a_t_order, .ref a_t_times, .int t_listed])), (a_t_now, .inl (cI, 1562, .inl t_now)), (a_t_text, .inl (cB, 200, .inl t_text))] sz) := by
  refine Met.ofW (cc := cX11_unit) (maxL := 6) (ret := (some .boolean)) (by decide) rfl ?_
  intro p e s m args below meth c s₁ B hml hv
  obtain ⟨rfl, hsz, hP, hK, hN, hZ, hD0⟩ := hv
  have hx := B.exec
  have hb := B.bytes
  have hr := B.returns
  have hts := atoms_spec (ws := wsX11_unit) B.pre
  have hown : s.vm.findClass RX11 = some m.cls := findClass_of_methodNamed B.named
  have hlocks := B.notSynchronized
  subst hsz
  have hD := hD0.self (sz := s.heap.size)
  generalize hAe : va_A [(a_t, .inr (11, [.int t_thrown, .ref a_t_now, .ref a_t_kept, .int t_isKept, .ref a_t_text, .int t_length, .ref a_t_passing, .int t_at, .int t_fault, .int t_open, .int t_asked, .int t_byGun, .int t_prizeMost, .ref a_t_order, .ref a_t_times, .int t_listed])), (a_t_now, .inl (cI, 1562, .inl t_now)), (a_t_text, .inl (cB, 200, .inl t_text))] s.heap.size = A at hD hZ ⊢
  have hA : ∀ q : Nat, s.heap.size ≤ q → A q := fun q h => by rw [← hAe]; exact Or.inr h
  have hS : va_S A s.heap s.heap [] := va_S.rf
  have hl := lv_entry ([.ref a_t]) (n := 6) (Nat.le_of_ble_eq_true rfl)
  rw [lg_entry_eq]
  generalize (lg_sl ([.ref a_t]) ++ List.replicate (6 - (lg_sl ([.ref a_t])).length) Slot.unset).toArray = ls at hl ⊢
  have hl : lv_has ls 6 [(0, .ref a_t)] := hl
  unfold fX11_unit at h
  refine lv_aload_n hx hb dX11_unit_0 rfl (lv_at hl 0 rfl) ?_
  obtain ⟨⟨r1, t_at_r2⟩, e3, h⟩ := zz_b h
  dsimp only at h
  refine zVi (As := []) (rest := []) (C := RX11) (wr := [(a_t_now, .inl (cI, 1562, .inl t_now))]) [0, 2] [1] 0 ⟨hx, hb, hml, hown, hts⟩ (mX11_look l D cB cI cZ a_t a_t_now a_t_kept a_t_text a_t_passing a_t_order a_t_times t_thrown t_isKept t_length t_at t_fault t_open t_asked t_byGun t_prizeMost t_listed t_text s.heap.size N r1 t_at_r2 e3) (cwV 0 hts gX11_unit_X11_look rfl rfl rfl (by decide +kernel) ⟨Nat.le_of_ble_eq_true rfl, Nat.le_of_ble_eq_true rfl⟩) hK hN hZ hP hD hS hA rfl rfl rfl rfl rfl rfl rfl rfl hl.1 rfl (lv_room (Nat.le_of_ble_eq_true rfl)) dX11_unit_1 ⟨Nat.le_of_ble_eq_true rfl, Nat.le_of_ble_eq_true rfl⟩ (fun H locs hP hD hS => ?_)
  have hP : va_P D vwCl [(a_t_now, .inl (cI, 1562, .inl t_now)), (a_t, .inr (11, [.int t_thrown, .ref a_t_now, .ref a_t_kept, .int t_isKept, .ref a_t_text, .int t_length, .ref a_t_passing, .int t_at_r2, .int t_fault, .int t_open, .int t_asked, .int t_byGun, .int t_prizeMost, .ref a_t_order, .ref a_t_times, .int t_listed])), (a_t_text, .inl (cB, 200, .inl t_text))] H := hP
  have hD : va_D A [(a_t_now, .inl (cI, 1562, .inl t_now)), (a_t, .inr (11, [.int t_thrown, .ref a_t_now, .ref a_t_kept, .int t_isKept, .ref a_t_text, .int t_length, .ref a_t_passing, .int t_at_r2, .int t_fault, .int t_open, .int t_asked, .int t_byGun, .int t_prizeMost, .ref a_t_order, .ref a_t_times, .int t_listed])), (a_t_text, .inl (cB, 200, .inl t_text))] := hD
  refine lv_istore_n (lv' := [(1, .int r1), (0, .ref a_t)]) hx hb dX11_unit_4 rfl hl (by decide) rfl (fun ls hl => ?_)
  refine lv_iload_n hx hb dX11_unit_5 rfl (lv_at hl 0 rfl) ?_
  refine lv_bipush (v := (nI 40)) hx hb dX11_unit_6 rfl ?_
  refine lv_icmp_ne (tgt := 69) hx hb dX11_unit_8 (by decide) (fun c4 => ?_) (fun c4 => ?_)
  · have h := zz_f h c4
    refine lv_iload_n hx hb dX11_unit_69 rfl (lv_at hl 0 rfl) ?_
    refine lv_bipush (v := (nI 115)) hx hb dX11_unit_70 rfl ?_
    have J120 : ∀ (s0_j120 : Int32) (H : Heap) (locs : List Loc) (ls : Array Slot), fX11_unit_J120 N t_length t_fault t_open t_asked t_now t_text t_at_r2 s0_j120 = some (b0, t_at', t_fault', t_open') → va_P D vwCl [(a_t_now, .inl (cI, 1562, .inl t_now)), (a_t, .inr (11, [.int t_thrown, .ref a_t_now, .ref a_t_kept, .int t_isKept, .ref a_t_text, .int t_length, .ref a_t_passing, .int t_at_r2, .int t_fault, .int t_open, .int t_asked, .int t_byGun, .int t_prizeMost, .ref a_t_order, .ref a_t_times, .int t_listed])), (a_t_text, .inl (cB, 200, .inl t_text))] H → va_D A [(a_t_now, .inl (cI, 1562, .inl t_now)), (a_t, .inr (11, [.int t_thrown, .ref a_t_now, .ref a_t_kept, .int t_isKept, .ref a_t_text, .int t_length, .ref a_t_passing, .int t_at_r2, .int t_fault, .int t_open, .int t_asked, .int t_byGun, .int t_prizeMost, .ref a_t_order, .ref a_t_times, .int t_listed])), (a_t_text, .inl (cB, 200, .inl t_text))] → va_S A s.heap H locs → lv_has ls 6 [(1, .int r1), (0, .ref a_t)] → W p l e (headSpec wsX11_unit ({ frames := 26, cells := 0, slots := 0, locals := 594 } : Room)).room s m #[Value.ref a_t] below meth c H locs 0 0 (MQ below (zQi (zb b0) D (zT cB cI cZ) [(a_t, .inr (11, [.int t_thrown, .ref a_t_now, .ref a_t_kept, .int t_isKept, .ref a_t_text, .int t_length, .ref a_t_passing, .int t_at', .int t_fault', .int t_open', .int t_asked, .int t_byGun, .int t_prizeMost, .ref a_t_order, .ref a_t_times, .int t_listed])), (a_t_now, .inl (cI, 1562, .inl t_now)), (a_t_text, .inl (cB, 200, .inl t_text))] A) #[Value.ref a_t] s 0 0 A) (F0 m 120 ls [.int s0_j120]) := by
      intro s0_j120 H locs ls h hP hD hS hl
      unfold fX11_unit_J120 at h
      refine lv_istore_n (lv' := [(2, .int s0_j120), (1, .int r1), (0, .ref a_t)]) hx hb dX11_unit_120 rfl hl (by decide) rfl (fun ls hl => ?_)
      refine lv_iload_n hx hb dX11_unit_121 rfl (lv_at hl 0 rfl) ?_
      refine lv_iconst (v := (-1 : Int32)) hx hb dX11_unit_122 rfl ?_
      refine lv_icmp_ne (tgt := 132) hx hb dX11_unit_123 (by decide) (fun c5 => ?_) (fun c5 => ?_)
      · have h := zz_f h c5
        refine lv_aload_n hx hb dX11_unit_132 rfl (lv_at hl 2 rfl) ?_
        refine lv_dup hx hb dX11_unit_133 rfl ?_
        refine va_get (D := D) (ci := 11) (C := RX11) (T := TX11) (N := 16) hx hb hts qX11_unit_X11 hown hK hP 1 rfl rfl 7 (by decide) (hts _ kX11_unit_0) (fun _ h9 => h9) rfl dX11_unit_134 ?_
        refine lv_iconst (v := (nI 1)) hx hb dX11_unit_137 rfl ?_
        refine lv_iadd hx hb dX11_unit_138 ?_
        refine va_put (D := D) (ci := 11) (ty := .int) (C := RX11) (T := TX11) (N := 16) hx hb hts qX11_unit_X11 tyX11 tyX11_ok nmX11 hown hK hP hD hS 1 rfl rfl 7 (by decide) (hts _ kX11_unit_0) (fun _ h9 => h9) rfl (by decide +kernel) rfl (by first | rfl | exact zz_fit) (Nat.le_of_ble_eq_true rfl) dX11_unit_139 (fun H locs hP hD hS => ?_)
        have hP : va_P D vwCl [(a_t_now, .inl (cI, 1562, .inl t_now)), (a_t, .inr (11, [.int t_thrown, .ref a_t_now, .ref a_t_kept, .int t_isKept, .ref a_t_text, .int t_length, .ref a_t_passing, .int (t_at_r2 + (nI 1)), .int t_fault, .int t_open, .int t_asked, .int t_byGun, .int t_prizeMost, .ref a_t_order, .ref a_t_times, .int t_listed])), (a_t_text, .inl (cB, 200, .inl t_text))] H := hP
        have hD : va_D A [(a_t_now, .inl (cI, 1562, .inl t_now)), (a_t, .inr (11, [.int t_thrown, .ref a_t_now, .ref a_t_kept, .int t_isKept, .ref a_t_text, .int t_length, .ref a_t_passing, .int (t_at_r2 + (nI 1)), .int t_fault, .int t_open, .int t_asked, .int t_byGun, .int t_prizeMost, .ref a_t_order, .ref a_t_times, .int t_listed])), (a_t_text, .inl (cB, 200, .inl t_text))] := hD
        refine lv_aload_n hx hb dX11_unit_142 rfl (lv_at hl 2 rfl) ?_
        obtain ⟨⟨r6, t_at_r7⟩, e8, h⟩ := zz_b h
        dsimp only at h
        refine zVi (As := []) (rest := []) (C := RX11) (wr := [(a_t_now, .inl (cI, 1562, .inl t_now))]) [1, 2] [0] 0 ⟨hx, hb, hml, hown, hts⟩ (mX11_look l D cB cI cZ a_t a_t_now a_t_kept a_t_text a_t_passing a_t_order a_t_times t_thrown t_isKept t_length (t_at_r2 + (nI 1)) t_fault t_open t_asked t_byGun t_prizeMost t_listed t_text H.size N r6 t_at_r7 e8) (cwV 0 hts gX11_unit_X11_look rfl rfl rfl (by decide +kernel) ⟨Nat.le_of_ble_eq_true rfl, Nat.le_of_ble_eq_true rfl⟩) hK hN hZ hP hD hS hA rfl rfl rfl rfl rfl rfl rfl rfl hl.1 rfl (lv_room (Nat.le_of_ble_eq_true rfl)) dX11_unit_143 ⟨Nat.le_of_ble_eq_true rfl, Nat.le_of_ble_eq_true rfl⟩ (fun H locs hP hD hS => ?_)
        have hP : va_P D vwCl [(a_t_now, .inl (cI, 1562, .inl t_now)), (a_t, .inr (11, [.int t_thrown, .ref a_t_now, .ref a_t_kept, .int t_isKept, .ref a_t_text, .int t_length, .ref a_t_passing, .int t_at_r7, .int t_fault, .int t_open, .int t_asked, .int t_byGun, .int t_prizeMost, .ref a_t_order, .ref a_t_times, .int t_listed])), (a_t_text, .inl (cB, 200, .inl t_text))] H := hP
        have hD : va_D A [(a_t_now, .inl (cI, 1562, .inl t_now)), (a_t, .inr (11, [.int t_thrown, .ref a_t_now, .ref a_t_kept, .int t_isKept, .ref a_t_text, .int t_length, .ref a_t_passing, .int t_at_r7, .int t_fault, .int t_open, .int t_asked, .int t_byGun, .int t_prizeMost, .ref a_t_order, .ref a_t_times, .int t_listed])), (a_t_text, .inl (cB, 200, .inl t_text))] := hD
        refine lv_istore_n (lv' := [(3, .int r6), (2, .int s0_j120), (1, .int r1), (0, .ref a_t)]) hx hb dX11_unit_146 rfl hl (by decide) rfl (fun ls hl => ?_)
        refine lv_iload_n hx hb dX11_unit_147 rfl (lv_at hl 0 rfl) ?_
        refine lv_bipush (v := (nI 61)) hx hb dX11_unit_148 rfl ?_
        have J171 : ∀ (H : Heap) (locs : List Loc) (ls : Array Slot), fX11_unit_J171 N t_length t_fault t_open t_asked t_now t_text s0_j120 r6 t_at_r7 = some (b0, t_at', t_fault', t_open') → va_P D vwCl [(a_t_now, .inl (cI, 1562, .inl t_now)), (a_t, .inr (11, [.int t_thrown, .ref a_t_now, .ref a_t_kept, .int t_isKept, .ref a_t_text, .int t_length, .ref a_t_passing, .int t_at_r7, .int t_fault, .int t_open, .int t_asked, .int t_byGun, .int t_prizeMost, .ref a_t_order, .ref a_t_times, .int t_listed])), (a_t_text, .inl (cB, 200, .inl t_text))] H → va_D A [(a_t_now, .inl (cI, 1562, .inl t_now)), (a_t, .inr (11, [.int t_thrown, .ref a_t_now, .ref a_t_kept, .int t_isKept, .ref a_t_text, .int t_length, .ref a_t_passing, .int t_at_r7, .int t_fault, .int t_open, .int t_asked, .int t_byGun, .int t_prizeMost, .ref a_t_order, .ref a_t_times, .int t_listed])), (a_t_text, .inl (cB, 200, .inl t_text))] → va_S A s.heap H locs → lv_has ls 6 [(3, .int r6), (2, .int s0_j120), (1, .int r1), (0, .ref a_t)] → W p l e (headSpec wsX11_unit ({ frames := 26, cells := 0, slots := 0, locals := 594 } : Room)).room s m #[Value.ref a_t] below meth c H locs 0 0 (MQ below (zQi (zb b0) D (zT cB cI cZ) [(a_t, .inr (11, [.int t_thrown, .ref a_t_now, .ref a_t_kept, .int t_isKept, .ref a_t_text, .int t_length, .ref a_t_passing, .int t_at', .int t_fault', .int t_open', .int t_asked, .int t_byGun, .int t_prizeMost, .ref a_t_order, .ref a_t_times, .int t_listed])), (a_t_now, .inl (cI, 1562, .inl t_now)), (a_t_text, .inl (cB, 200, .inl t_text))] A) #[Value.ref a_t] s 0 0 A) (F0 m 171 ls []) := by
          intro  H locs ls h hP hD hS hl
          unfold fX11_unit_J171 at h
          refine lv_aload_n hx hb dX11_unit_171 rfl (lv_at hl 3 rfl) ?_
          refine lv_dup hx hb dX11_unit_172 rfl ?_
          refine va_get (D := D) (ci := 11) (C := RX11) (T := TX11) (N := 16) hx hb hts qX11_unit_X11 hown hK hP 1 rfl rfl 7 (by decide) (hts _ kX11_unit_0) (fun _ h9 => h9) rfl dX11_unit_173 ?_
          refine lv_iconst (v := (nI 1)) hx hb dX11_unit_176 rfl ?_
          refine lv_iadd hx hb dX11_unit_177 ?_
          refine va_put (D := D) (ci := 11) (ty := .int) (C := RX11) (T := TX11) (N := 16) hx hb hts qX11_unit_X11 tyX11 tyX11_ok nmX11 hown hK hP hD hS 1 rfl rfl 7 (by decide) (hts _ kX11_unit_0) (fun _ h9 => h9) rfl (by decide +kernel) rfl (by first | rfl | exact zz_fit) (Nat.le_of_ble_eq_true rfl) dX11_unit_178 (fun H locs hP hD hS => ?_)
          have hP : va_P D vwCl [(a_t_now, .inl (cI, 1562, .inl t_now)), (a_t, .inr (11, [.int t_thrown, .ref a_t_now, .ref a_t_kept, .int t_isKept, .ref a_t_text, .int t_length, .ref a_t_passing, .int (t_at_r7 + (nI 1)), .int t_fault, .int t_open, .int t_asked, .int t_byGun, .int t_prizeMost, .ref a_t_order, .ref a_t_times, .int t_listed])), (a_t_text, .inl (cB, 200, .inl t_text))] H := hP
          have hD : va_D A [(a_t_now, .inl (cI, 1562, .inl t_now)), (a_t, .inr (11, [.int t_thrown, .ref a_t_now, .ref a_t_kept, .int t_isKept, .ref a_t_text, .int t_length, .ref a_t_passing, .int (t_at_r7 + (nI 1)), .int t_fault, .int t_open, .int t_asked, .int t_byGun, .int t_prizeMost, .ref a_t_order, .ref a_t_times, .int t_listed])), (a_t_text, .inl (cB, 200, .inl t_text))] := hD
          refine lv_aload_n hx hb dX11_unit_181 rfl (lv_at hl 3 rfl) ?_
          obtain ⟨⟨r9, t_at_r10, t_fault_r11⟩, e12, h⟩ := zz_b h
          dsimp only at h
          refine zVi (As := []) (rest := []) (C := RX11) (wr := [(a_t_now, .inl (cI, 1562, .inl t_now))]) [1, 2] [0] 0 ⟨hx, hb, hml, hown, hts⟩ (mX11_number l D cB cI cZ a_t a_t_now a_t_kept a_t_text a_t_passing a_t_order a_t_times t_thrown t_isKept t_length (t_at_r7 + (nI 1)) t_fault t_open t_asked t_byGun t_prizeMost t_listed t_text H.size N r9 t_at_r10 t_fault_r11 e12) (cwV 0 hts gX11_unit_X11_number rfl rfl rfl (by decide +kernel) ⟨Nat.le_of_ble_eq_true rfl, Nat.le_of_ble_eq_true rfl⟩) hK hN hZ hP hD hS hA rfl rfl rfl rfl rfl rfl rfl rfl hl.1 rfl (lv_room (Nat.le_of_ble_eq_true rfl)) dX11_unit_182 ⟨Nat.le_of_ble_eq_true rfl, Nat.le_of_ble_eq_true rfl⟩ (fun H locs hP hD hS => ?_)
          have hP : va_P D vwCl [(a_t_now, .inl (cI, 1562, .inl t_now)), (a_t, .inr (11, [.int t_thrown, .ref a_t_now, .ref a_t_kept, .int t_isKept, .ref a_t_text, .int t_length, .ref a_t_passing, .int t_at_r10, .int t_fault_r11, .int t_open, .int t_asked, .int t_byGun, .int t_prizeMost, .ref a_t_order, .ref a_t_times, .int t_listed])), (a_t_text, .inl (cB, 200, .inl t_text))] H := hP
          have hD : va_D A [(a_t_now, .inl (cI, 1562, .inl t_now)), (a_t, .inr (11, [.int t_thrown, .ref a_t_now, .ref a_t_kept, .int t_isKept, .ref a_t_text, .int t_length, .ref a_t_passing, .int t_at_r10, .int t_fault_r11, .int t_open, .int t_asked, .int t_byGun, .int t_prizeMost, .ref a_t_order, .ref a_t_times, .int t_listed])), (a_t_text, .inl (cB, 200, .inl t_text))] := hD
          refine lv_istore (lv' := [(4, .int r9), (3, .int r6), (2, .int s0_j120), (1, .int r1), (0, .ref a_t)]) hx hb dX11_unit_185 hl (by decide) rfl (fun ls hl => ?_)
          refine lv_aload_n hx hb dX11_unit_187 rfl (lv_at hl 4 rfl) ?_
          refine va_get (D := D) (ci := 11) (C := RX11) (T := TX11) (N := 16) hx hb hts qX11_unit_X11 hown hK hP 1 rfl rfl 10 (by decide) (hts _ kX11_unit_2) (fun _ h9 => h9) rfl dX11_unit_188 ?_
          refine lv_iconst (v := (-1 : Int32)) hx hb dX11_unit_191 rfl ?_
          refine lv_icmp_ne (tgt := 199) hx hb dX11_unit_192 (by decide) (fun c13 => ?_) (fun c13 => ?_)
          · have h := zz_f h c13
            refine lv_aload_n hx hb dX11_unit_199 rfl (lv_at hl 4 rfl) ?_
            refine lv_aload_n hx hb dX11_unit_200 rfl (lv_at hl 4 rfl) ?_
            refine va_get (D := D) (ci := 11) (C := RX11) (T := TX11) (N := 16) hx hb hts qX11_unit_X11 hown hK hP 1 rfl rfl 10 (by decide) (hts _ kX11_unit_2) (fun _ h9 => h9) rfl dX11_unit_201 ?_
            refine lv_iload_n hx hb dX11_unit_204 rfl (lv_at hl 2 rfl) ?_
            obtain ⟨r14, e15, h⟩ := zz_b h
            refine zVi (As := [.int t_asked, .int s0_j120]) (rest := []) (C := RX11) (wr := [(a_t_text, .inl (cB, 200, .inl t_text))]) [1, 0] [2] 0 ⟨hx, hb, hml, hown, hts⟩ (mX11_of l D cB cI cZ a_t a_t_now a_t_kept a_t_text a_t_passing a_t_order a_t_times t_thrown t_isKept t_length t_at_r10 t_fault_r11 t_open t_asked t_byGun t_prizeMost t_listed t_now H.size t_asked s0_j120 r14 e15) (cwV 2 hts gX11_unit_X11_of rfl rfl rfl (by decide +kernel) ⟨Nat.le_of_ble_eq_true rfl, Nat.le_of_ble_eq_true rfl⟩) hK hN hZ hP hD hS hA rfl rfl rfl rfl rfl rfl rfl rfl hl.1 rfl (lv_room (Nat.le_of_ble_eq_true rfl)) dX11_unit_205 ⟨Nat.le_of_ble_eq_true rfl, Nat.le_of_ble_eq_true rfl⟩ (fun H locs hP hD hS => ?_)
            have hP : va_P D vwCl [(a_t_text, .inl (cB, 200, .inl t_text)), (a_t, .inr (11, [.int t_thrown, .ref a_t_now, .ref a_t_kept, .int t_isKept, .ref a_t_text, .int t_length, .ref a_t_passing, .int t_at_r10, .int t_fault_r11, .int t_open, .int t_asked, .int t_byGun, .int t_prizeMost, .ref a_t_order, .ref a_t_times, .int t_listed])), (a_t_now, .inl (cI, 1562, .inl t_now))] H := hP
            have hD : va_D A [(a_t_text, .inl (cB, 200, .inl t_text)), (a_t, .inr (11, [.int t_thrown, .ref a_t_now, .ref a_t_kept, .int t_isKept, .ref a_t_text, .int t_length, .ref a_t_passing, .int t_at_r10, .int t_fault_r11, .int t_open, .int t_asked, .int t_byGun, .int t_prizeMost, .ref a_t_order, .ref a_t_times, .int t_listed])), (a_t_now, .inl (cI, 1562, .inl t_now))] := hD
            refine lv_istore (lv' := [(5, .int r14), (4, .int r9), (3, .int r6), (2, .int s0_j120), (1, .int r1), (0, .ref a_t)]) hx hb dX11_unit_208 hl (by decide) rfl (fun ls hl => ?_)
            refine lv_iload_n hx hb dX11_unit_210 rfl (lv_at hl 2 rfl) ?_
            refine lv_bipush (v := (nI 61)) hx hb dX11_unit_211 rfl ?_
            refine lv_icmp_ne (tgt := 231) hx hb dX11_unit_213 (by decide) (fun c16 => ?_) (fun c16 => ?_)
            · have h := zz_f h c16
              refine lv_iload_n hx hb dX11_unit_231 rfl (lv_at hl 2 rfl) ?_
              refine lv_bipush (v := (nI 60)) hx hb dX11_unit_232 rfl ?_
              refine lv_icmp_ne (tgt := 252) hx hb dX11_unit_234 (by decide) (fun c17 => ?_) (fun c17 => ?_)
              · have h := zz_f h c17
                refine lv_iload hx hb dX11_unit_252 (lv_at hl 0 rfl) ?_
                refine lv_iload hx hb dX11_unit_254 (lv_at hl 1 rfl) ?_
                refine lv_icmp_le (tgt := 263) hx hb dX11_unit_256 (by decide) (fun c18 => ?_) (fun c18 => ?_)
                · have h := zz_t h c18
                  refine lv_iconst (v := (nI 0)) hx hb dX11_unit_263 rfl ?_
                  obtain ⟨j0_, g_⟩ := Prod.mk.inj (Option.some.inj h)
                  obtain ⟨j1_, g_⟩ := Prod.mk.inj g_
                  obtain ⟨j2_, g_⟩ := Prod.mk.inj g_
                  have j3_ := g_
                  subst j0_
                  subst j1_
                  subst j2_
                  subst j3_
                  exact W.zret (v := (nI 0)) hx hb hr rfl (fun t ht hW => ⟨⟨_, (), rfl, rfl, zPost.of hP hD hK ht hW [1, 2, 0] rfl rfl rfl⟩, hS.F ht⟩) hS.2.2 dX11_unit_264
                · have h := zz_f h c18
                  refine lv_iconst (v := (nI 1)) hx hb dX11_unit_259 rfl ?_
                  refine lv_goto (tgt := 264) hx hb dX11_unit_260 (by decide) ?_
                  obtain ⟨j0_, g_⟩ := Prod.mk.inj (Option.some.inj h)
                  obtain ⟨j1_, g_⟩ := Prod.mk.inj g_
                  obtain ⟨j2_, g_⟩ := Prod.mk.inj g_
                  have j3_ := g_
                  subst j0_
                  subst j1_
                  subst j2_
                  subst j3_
                  exact W.zret (v := (nI 1)) hx hb hr rfl (fun t ht hW => ⟨⟨_, (), rfl, rfl, zPost.of hP hD hK ht hW [1, 2, 0] rfl rfl rfl⟩, hS.F ht⟩) hS.2.2 dX11_unit_264
              · have h := zz_t h c17
                refine lv_iload hx hb dX11_unit_237 (lv_at hl 0 rfl) ?_
                refine lv_iload hx hb dX11_unit_239 (lv_at hl 1 rfl) ?_
                refine lv_icmp_ge (tgt := 248) hx hb dX11_unit_241 (by decide) (fun c19 => ?_) (fun c19 => ?_)
                · have h := zz_t h c19
                  refine lv_iconst (v := (nI 0)) hx hb dX11_unit_248 rfl ?_
                  refine lv_goto (tgt := 264) hx hb dX11_unit_249 (by decide) ?_
                  obtain ⟨j0_, g_⟩ := Prod.mk.inj (Option.some.inj h)
                  obtain ⟨j1_, g_⟩ := Prod.mk.inj g_
                  obtain ⟨j2_, g_⟩ := Prod.mk.inj g_
                  have j3_ := g_
                  subst j0_
                  subst j1_
                  subst j2_
                  subst j3_
                  exact W.zret (v := (nI 0)) hx hb hr rfl (fun t ht hW => ⟨⟨_, (), rfl, rfl, zPost.of hP hD hK ht hW [1, 2, 0] rfl rfl rfl⟩, hS.F ht⟩) hS.2.2 dX11_unit_264
                · have h := zz_f h c19
                  refine lv_iconst (v := (nI 1)) hx hb dX11_unit_244 rfl ?_
                  refine lv_goto (tgt := 264) hx hb dX11_unit_245 (by decide) ?_
                  obtain ⟨j0_, g_⟩ := Prod.mk.inj (Option.some.inj h)
                  obtain ⟨j1_, g_⟩ := Prod.mk.inj g_
                  obtain ⟨j2_, g_⟩ := Prod.mk.inj g_
                  have j3_ := g_
                  subst j0_
                  subst j1_
                  subst j2_
                  subst j3_
                  exact W.zret (v := (nI 1)) hx hb hr rfl (fun t ht hW => ⟨⟨_, (), rfl, rfl, zPost.of hP hD hK ht hW [1, 2, 0] rfl rfl rfl⟩, hS.F ht⟩) hS.2.2 dX11_unit_264
            · have h := zz_t h c16
              refine lv_iload hx hb dX11_unit_216 (lv_at hl 0 rfl) ?_
              refine lv_iload hx hb dX11_unit_218 (lv_at hl 1 rfl) ?_
              refine lv_icmp_ne (tgt := 227) hx hb dX11_unit_220 (by decide) (fun c20 => ?_) (fun c20 => ?_)
              · have h := zz_f h c20
                refine lv_iconst (v := (nI 0)) hx hb dX11_unit_227 rfl ?_
                refine lv_goto (tgt := 264) hx hb dX11_unit_228 (by decide) ?_
                obtain ⟨j0_, g_⟩ := Prod.mk.inj (Option.some.inj h)
                obtain ⟨j1_, g_⟩ := Prod.mk.inj g_
                obtain ⟨j2_, g_⟩ := Prod.mk.inj g_
                have j3_ := g_
                subst j0_
                subst j1_
                subst j2_
                subst j3_
                exact W.zret (v := (nI 0)) hx hb hr rfl (fun t ht hW => ⟨⟨_, (), rfl, rfl, zPost.of hP hD hK ht hW [1, 2, 0] rfl rfl rfl⟩, hS.F ht⟩) hS.2.2 dX11_unit_264
              · have h := zz_t h c20
                refine lv_iconst (v := (nI 1)) hx hb dX11_unit_223 rfl ?_
                refine lv_goto (tgt := 264) hx hb dX11_unit_224 (by decide) ?_
                obtain ⟨j0_, g_⟩ := Prod.mk.inj (Option.some.inj h)
                obtain ⟨j1_, g_⟩ := Prod.mk.inj g_
                obtain ⟨j2_, g_⟩ := Prod.mk.inj g_
                have j3_ := g_
                subst j0_
                subst j1_
                subst j2_
                subst j3_
                exact W.zret (v := (nI 1)) hx hb hr rfl (fun t ht hW => ⟨⟨_, (), rfl, rfl, zPost.of hP hD hK ht hW [1, 2, 0] rfl rfl rfl⟩, hS.F ht⟩) hS.2.2 dX11_unit_264
          · have h := zz_t h c13
            refine lv_iconst (v := (nI 0)) hx hb dX11_unit_195 rfl ?_
            refine lv_goto (tgt := 208) hx hb dX11_unit_196 (by decide) ?_
            refine lv_istore (lv' := [(5, .int (nI 0)), (4, .int r9), (3, .int r6), (2, .int s0_j120), (1, .int r1), (0, .ref a_t)]) hx hb dX11_unit_208 hl (by decide) rfl (fun ls hl => ?_)
            refine lv_iload_n hx hb dX11_unit_210 rfl (lv_at hl 2 rfl) ?_
            refine lv_bipush (v := (nI 61)) hx hb dX11_unit_211 rfl ?_
            refine lv_icmp_ne (tgt := 231) hx hb dX11_unit_213 (by decide) (fun c21 => ?_) (fun c21 => ?_)
            · have h := zz_f h c21
              refine lv_iload_n hx hb dX11_unit_231 rfl (lv_at hl 2 rfl) ?_
              refine lv_bipush (v := (nI 60)) hx hb dX11_unit_232 rfl ?_
              refine lv_icmp_ne (tgt := 252) hx hb dX11_unit_234 (by decide) (fun c22 => ?_) (fun c22 => ?_)
              · have h := zz_f h c22
                refine lv_iload hx hb dX11_unit_252 (lv_at hl 0 rfl) ?_
                refine lv_iload hx hb dX11_unit_254 (lv_at hl 1 rfl) ?_
                refine lv_icmp_le (tgt := 263) hx hb dX11_unit_256 (by decide) (fun c23 => ?_) (fun c23 => ?_)
                · have h := zz_t h c23
                  refine lv_iconst (v := (nI 0)) hx hb dX11_unit_263 rfl ?_
                  obtain ⟨j0_, g_⟩ := Prod.mk.inj (Option.some.inj h)
                  obtain ⟨j1_, g_⟩ := Prod.mk.inj g_
                  obtain ⟨j2_, g_⟩ := Prod.mk.inj g_
                  have j3_ := g_
                  subst j0_
                  subst j1_
                  subst j2_
                  subst j3_
                  exact W.zret (v := (nI 0)) hx hb hr rfl (fun t ht hW => ⟨⟨_, (), rfl, rfl, zPost.of hP hD hK ht hW [1, 0, 2] rfl rfl rfl⟩, hS.F ht⟩) hS.2.2 dX11_unit_264
                · have h := zz_f h c23
                  refine lv_iconst (v := (nI 1)) hx hb dX11_unit_259 rfl ?_
                  refine lv_goto (tgt := 264) hx hb dX11_unit_260 (by decide) ?_
                  obtain ⟨j0_, g_⟩ := Prod.mk.inj (Option.some.inj h)
                  obtain ⟨j1_, g_⟩ := Prod.mk.inj g_
                  obtain ⟨j2_, g_⟩ := Prod.mk.inj g_
                  have j3_ := g_
                  subst j0_
                  subst j1_
                  subst j2_
                  subst j3_
                  exact W.zret (v := (nI 1)) hx hb hr rfl (fun t ht hW => ⟨⟨_, (), rfl, rfl, zPost.of hP hD hK ht hW [1, 0, 2] rfl rfl rfl⟩, hS.F ht⟩) hS.2.2 dX11_unit_264
              · have h := zz_t h c22
                refine lv_iload hx hb dX11_unit_237 (lv_at hl 0 rfl) ?_
                refine lv_iload hx hb dX11_unit_239 (lv_at hl 1 rfl) ?_
                refine lv_icmp_ge (tgt := 248) hx hb dX11_unit_241 (by decide) (fun c24 => ?_) (fun c24 => ?_)
                · have h := zz_t h c24
                  refine lv_iconst (v := (nI 0)) hx hb dX11_unit_248 rfl ?_
                  refine lv_goto (tgt := 264) hx hb dX11_unit_249 (by decide) ?_
                  obtain ⟨j0_, g_⟩ := Prod.mk.inj (Option.some.inj h)
                  obtain ⟨j1_, g_⟩ := Prod.mk.inj g_
                  obtain ⟨j2_, g_⟩ := Prod.mk.inj g_
                  have j3_ := g_
                  subst j0_
                  subst j1_
                  subst j2_
                  subst j3_
                  exact W.zret (v := (nI 0)) hx hb hr rfl (fun t ht hW => ⟨⟨_, (), rfl, rfl, zPost.of hP hD hK ht hW [1, 0, 2] rfl rfl rfl⟩, hS.F ht⟩) hS.2.2 dX11_unit_264
                · have h := zz_f h c24
                  refine lv_iconst (v := (nI 1)) hx hb dX11_unit_244 rfl ?_
                  refine lv_goto (tgt := 264) hx hb dX11_unit_245 (by decide) ?_
                  obtain ⟨j0_, g_⟩ := Prod.mk.inj (Option.some.inj h)
                  obtain ⟨j1_, g_⟩ := Prod.mk.inj g_
                  obtain ⟨j2_, g_⟩ := Prod.mk.inj g_
                  have j3_ := g_
                  subst j0_
                  subst j1_
                  subst j2_
                  subst j3_
                  exact W.zret (v := (nI 1)) hx hb hr rfl (fun t ht hW => ⟨⟨_, (), rfl, rfl, zPost.of hP hD hK ht hW [1, 0, 2] rfl rfl rfl⟩, hS.F ht⟩) hS.2.2 dX11_unit_264
            · have h := zz_t h c21
              refine lv_iload hx hb dX11_unit_216 (lv_at hl 0 rfl) ?_
              refine lv_iload hx hb dX11_unit_218 (lv_at hl 1 rfl) ?_
              refine lv_icmp_ne (tgt := 227) hx hb dX11_unit_220 (by decide) (fun c25 => ?_) (fun c25 => ?_)
              · have h := zz_f h c25
                refine lv_iconst (v := (nI 0)) hx hb dX11_unit_227 rfl ?_
                refine lv_goto (tgt := 264) hx hb dX11_unit_228 (by decide) ?_
                obtain ⟨j0_, g_⟩ := Prod.mk.inj (Option.some.inj h)
                obtain ⟨j1_, g_⟩ := Prod.mk.inj g_
                obtain ⟨j2_, g_⟩ := Prod.mk.inj g_
                have j3_ := g_
                subst j0_
                subst j1_
                subst j2_
                subst j3_
                exact W.zret (v := (nI 0)) hx hb hr rfl (fun t ht hW => ⟨⟨_, (), rfl, rfl, zPost.of hP hD hK ht hW [1, 0, 2] rfl rfl rfl⟩, hS.F ht⟩) hS.2.2 dX11_unit_264
              · have h := zz_t h c25
                refine lv_iconst (v := (nI 1)) hx hb dX11_unit_223 rfl ?_
                refine lv_goto (tgt := 264) hx hb dX11_unit_224 (by decide) ?_
                obtain ⟨j0_, g_⟩ := Prod.mk.inj (Option.some.inj h)
                obtain ⟨j1_, g_⟩ := Prod.mk.inj g_
                obtain ⟨j2_, g_⟩ := Prod.mk.inj g_
                have j3_ := g_
                subst j0_
                subst j1_
                subst j2_
                subst j3_
                exact W.zret (v := (nI 1)) hx hb hr rfl (fun t ht hW => ⟨⟨_, (), rfl, rfl, zPost.of hP hD hK ht hW [1, 0, 2] rfl rfl rfl⟩, hS.F ht⟩) hS.2.2 dX11_unit_264
        refine lv_icmp_eq (tgt := 171) hx hb dX11_unit_150 (by decide) (fun c26 => ?_) (fun c26 => ?_)
        · have h := zz_t h c26
          exact J171  _ _ _ h (hP.sub [0, 1, 2] rfl) (hD.sub [0, 1, 2] rfl rfl) hS (lv_sub hl [0, 1, 2, 3] rfl)
        · have h := zz_f h c26
          refine lv_iload_n hx hb dX11_unit_153 rfl (lv_at hl 0 rfl) ?_
          refine lv_bipush (v := (nI 60)) hx hb dX11_unit_154 rfl ?_
          refine lv_icmp_eq (tgt := 171) hx hb dX11_unit_156 (by decide) (fun c27 => ?_) (fun c27 => ?_)
          · have h := zz_t h c27
            exact J171  _ _ _ h (hP.sub [0, 1, 2] rfl) (hD.sub [0, 1, 2] rfl rfl) hS (lv_sub hl [0, 1, 2, 3] rfl)
          · have h := zz_f h c27
            refine lv_iload_n hx hb dX11_unit_159 rfl (lv_at hl 0 rfl) ?_
            refine lv_bipush (v := (nI 62)) hx hb dX11_unit_160 rfl ?_
            refine lv_icmp_eq (tgt := 171) hx hb dX11_unit_162 (by decide) (fun c28 => ?_) (fun c28 => ?_)
            · have h := zz_t h c28
              exact J171  _ _ _ h (hP.sub [0, 1, 2] rfl) (hD.sub [0, 1, 2] rfl rfl) hS (lv_sub hl [0, 1, 2, 3] rfl)
            · have h := zz_f h c28
              refine lv_aload_n hx hb dX11_unit_165 rfl (lv_at hl 3 rfl) ?_
              obtain ⟨t_fault_r29, e30, h⟩ := zz_b h
              refine zVv (As := []) (rest := []) (C := RX11) (wr := [(a_t_now, .inl (cI, 1562, .inl t_now)), (a_t_text, .inl (cB, 200, .inl t_text))]) [1] [0, 2] 0 ⟨hx, hb, hml, hown, hts⟩ (mX11_wrong l D cB cI cZ a_t a_t_now a_t_kept a_t_text a_t_passing a_t_order a_t_times t_thrown t_isKept t_length t_at_r7 t_fault t_open t_asked t_byGun t_prizeMost t_listed H.size t_fault_r29 e30) (cwV 0 hts gX11_unit_X11_wrong rfl rfl rfl (by decide +kernel) ⟨Nat.le_of_ble_eq_true rfl, Nat.le_of_ble_eq_true rfl⟩) hK hN hZ hP hD hS hA rfl rfl rfl rfl rfl rfl rfl rfl hl.1 rfl (lv_room (Nat.le_of_ble_eq_true rfl)) dX11_unit_166 ⟨Nat.le_of_ble_eq_true rfl, Nat.le_of_ble_eq_true rfl⟩ (fun H locs hP hD hS => ?_)
              have hP : va_P D vwCl [(a_t_now, .inl (cI, 1562, .inl t_now)), (a_t_text, .inl (cB, 200, .inl t_text)), (a_t, .inr (11, [.int t_thrown, .ref a_t_now, .ref a_t_kept, .int t_isKept, .ref a_t_text, .int t_length, .ref a_t_passing, .int t_at_r7, .int t_fault_r29, .int t_open, .int t_asked, .int t_byGun, .int t_prizeMost, .ref a_t_order, .ref a_t_times, .int t_listed]))] H := hP
              have hD : va_D A [(a_t_now, .inl (cI, 1562, .inl t_now)), (a_t_text, .inl (cB, 200, .inl t_text)), (a_t, .inr (11, [.int t_thrown, .ref a_t_now, .ref a_t_kept, .int t_isKept, .ref a_t_text, .int t_length, .ref a_t_passing, .int t_at_r7, .int t_fault_r29, .int t_open, .int t_asked, .int t_byGun, .int t_prizeMost, .ref a_t_order, .ref a_t_times, .int t_listed]))] := hD
              refine lv_iconst (v := (nI 0)) hx hb dX11_unit_169 rfl ?_
              obtain ⟨j0_, g_⟩ := Prod.mk.inj (Option.some.inj h)
              obtain ⟨j1_, g_⟩ := Prod.mk.inj g_
              obtain ⟨j2_, g_⟩ := Prod.mk.inj g_
              have j3_ := g_
              subst j0_
              subst j1_
              subst j2_
              subst j3_
              exact W.zret (v := (nI 0)) hx hb hr rfl (fun t ht hW => ⟨⟨_, (), rfl, rfl, zPost.of hP hD hK ht hW [2, 0, 1] rfl rfl rfl⟩, hS.F ht⟩) hS.2.2 dX11_unit_170
      · have h := zz_t h c5
        refine lv_aload_n hx hb dX11_unit_126 rfl (lv_at hl 2 rfl) ?_
        obtain ⟨t_fault_r31, e32, h⟩ := zz_b h
        refine zVv (As := []) (rest := []) (C := RX11) (wr := [(a_t_now, .inl (cI, 1562, .inl t_now)), (a_t_text, .inl (cB, 200, .inl t_text))]) [1] [0, 2] 0 ⟨hx, hb, hml, hown, hts⟩ (mX11_wrong l D cB cI cZ a_t a_t_now a_t_kept a_t_text a_t_passing a_t_order a_t_times t_thrown t_isKept t_length t_at_r2 t_fault t_open t_asked t_byGun t_prizeMost t_listed H.size t_fault_r31 e32) (cwV 0 hts gX11_unit_X11_wrong rfl rfl rfl (by decide +kernel) ⟨Nat.le_of_ble_eq_true rfl, Nat.le_of_ble_eq_true rfl⟩) hK hN hZ hP hD hS hA rfl rfl rfl rfl rfl rfl rfl rfl hl.1 rfl (lv_room (Nat.le_of_ble_eq_true rfl)) dX11_unit_127 ⟨Nat.le_of_ble_eq_true rfl, Nat.le_of_ble_eq_true rfl⟩ (fun H locs hP hD hS => ?_)
        have hP : va_P D vwCl [(a_t_now, .inl (cI, 1562, .inl t_now)), (a_t_text, .inl (cB, 200, .inl t_text)), (a_t, .inr (11, [.int t_thrown, .ref a_t_now, .ref a_t_kept, .int t_isKept, .ref a_t_text, .int t_length, .ref a_t_passing, .int t_at_r2, .int t_fault_r31, .int t_open, .int t_asked, .int t_byGun, .int t_prizeMost, .ref a_t_order, .ref a_t_times, .int t_listed]))] H := hP
        have hD : va_D A [(a_t_now, .inl (cI, 1562, .inl t_now)), (a_t_text, .inl (cB, 200, .inl t_text)), (a_t, .inr (11, [.int t_thrown, .ref a_t_now, .ref a_t_kept, .int t_isKept, .ref a_t_text, .int t_length, .ref a_t_passing, .int t_at_r2, .int t_fault_r31, .int t_open, .int t_asked, .int t_byGun, .int t_prizeMost, .ref a_t_order, .ref a_t_times, .int t_listed]))] := hD
        refine lv_iconst (v := (nI 0)) hx hb dX11_unit_130 rfl ?_
        obtain ⟨j0_, g_⟩ := Prod.mk.inj (Option.some.inj h)
        obtain ⟨j1_, g_⟩ := Prod.mk.inj g_
        obtain ⟨j2_, g_⟩ := Prod.mk.inj g_
        have j3_ := g_
        subst j0_
        subst j1_
        subst j2_
        subst j3_
        exact W.zret (v := (nI 0)) hx hb hr rfl (fun t ht hW => ⟨⟨_, (), rfl, rfl, zPost.of hP hD hK ht hW [2, 0, 1] rfl rfl rfl⟩, hS.F ht⟩) hS.2.2 dX11_unit_131
    refine lv_icmp_ne (tgt := 79) hx hb dX11_unit_72 (by decide) (fun c33 => ?_) (fun c33 => ?_)
    · have h := zz_f h c33
      refine lv_iload_n hx hb dX11_unit_79 rfl (lv_at hl 0 rfl) ?_
      refine lv_bipush (v := (nI 121)) hx hb dX11_unit_80 rfl ?_
      refine lv_icmp_ne (tgt := 89) hx hb dX11_unit_82 (by decide) (fun c34 => ?_) (fun c34 => ?_)
      · have h := zz_f h c34
        refine lv_iload_n hx hb dX11_unit_89 rfl (lv_at hl 0 rfl) ?_
        refine lv_bipush (v := (nI 116)) hx hb dX11_unit_90 rfl ?_
        refine lv_icmp_ne (tgt := 99) hx hb dX11_unit_92 (by decide) (fun c35 => ?_) (fun c35 => ?_)
        · have h := zz_f h c35
          refine lv_iload_n hx hb dX11_unit_99 rfl (lv_at hl 0 rfl) ?_
          refine lv_bipush (v := (nI 112)) hx hb dX11_unit_100 rfl ?_
          refine lv_icmp_ne (tgt := 109) hx hb dX11_unit_102 (by decide) (fun c36 => ?_) (fun c36 => ?_)
          · have h := zz_f h c36
            refine lv_iload_n hx hb dX11_unit_109 rfl (lv_at hl 0 rfl) ?_
            refine lv_bipush (v := (nI 107)) hx hb dX11_unit_110 rfl ?_
            refine lv_icmp_ne (tgt := 119) hx hb dX11_unit_112 (by decide) (fun c37 => ?_) (fun c37 => ?_)
            · have h := zz_f h c37
              refine lv_iconst (v := (-1 : Int32)) hx hb dX11_unit_119 rfl ?_
              exact J120 (-1 : Int32) _ _ _ h (hP.sub [0, 1, 2] rfl) (hD.sub [0, 1, 2] rfl rfl) hS (lv_sub hl [0, 1] rfl)
            · have h := zz_t h c37
              refine lv_iconst (v := (nI 0)) hx hb dX11_unit_115 rfl ?_
              refine lv_goto (tgt := 120) hx hb dX11_unit_116 (by decide) ?_
              exact J120 (nI 0) _ _ _ h (hP.sub [0, 1, 2] rfl) (hD.sub [0, 1, 2] rfl rfl) hS (lv_sub hl [0, 1] rfl)
          · have h := zz_t h c36
            refine lv_iconst (v := (nI 5)) hx hb dX11_unit_105 rfl ?_
            refine lv_goto (tgt := 120) hx hb dX11_unit_106 (by decide) ?_
            exact J120 (nI 5) _ _ _ h (hP.sub [0, 1, 2] rfl) (hD.sub [0, 1, 2] rfl rfl) hS (lv_sub hl [0, 1] rfl)
        · have h := zz_t h c35
          refine lv_iconst (v := (nI 4)) hx hb dX11_unit_95 rfl ?_
          refine lv_goto (tgt := 120) hx hb dX11_unit_96 (by decide) ?_
          exact J120 (nI 4) _ _ _ h (hP.sub [0, 1, 2] rfl) (hD.sub [0, 1, 2] rfl rfl) hS (lv_sub hl [0, 1] rfl)
      · have h := zz_t h c34
        refine lv_iconst (v := (nI 2)) hx hb dX11_unit_85 rfl ?_
        refine lv_goto (tgt := 120) hx hb dX11_unit_86 (by decide) ?_
        exact J120 (nI 2) _ _ _ h (hP.sub [0, 1, 2] rfl) (hD.sub [0, 1, 2] rfl rfl) hS (lv_sub hl [0, 1] rfl)
    · have h := zz_t h c33
      refine lv_iconst (v := (nI 3)) hx hb dX11_unit_75 rfl ?_
      refine lv_goto (tgt := 120) hx hb dX11_unit_76 (by decide) ?_
      exact J120 (nI 3) _ _ _ h (hP.sub [0, 1, 2] rfl) (hD.sub [0, 1, 2] rfl rfl) hS (lv_sub hl [0, 1] rfl)
  · have h := zz_t h c4
    refine lv_aload_n hx hb dX11_unit_11 rfl (lv_at hl 1 rfl) ?_
    refine va_get (D := D) (ci := 11) (C := RX11) (T := TX11) (N := 16) hx hb hts qX11_unit_X11 hown hK hP 1 rfl rfl 9 (by decide) (hts _ kX11_unit_3) (fun _ h9 => h9) rfl dX11_unit_12 ?_
    refine lv_bipush (v := (nI 8)) hx hb dX11_unit_15 rfl ?_
    refine lv_icmp_ne (tgt := 26) hx hb dX11_unit_17 (by decide) (fun c38 => ?_) (fun c38 => ?_)
    · have h := zz_f h c38
      refine lv_aload_n hx hb dX11_unit_26 rfl (lv_at hl 1 rfl) ?_
      refine lv_dup hx hb dX11_unit_27 rfl ?_
      refine va_get (D := D) (ci := 11) (C := RX11) (T := TX11) (N := 16) hx hb hts qX11_unit_X11 hown hK hP 1 rfl rfl 9 (by decide) (hts _ kX11_unit_3) (fun _ h9 => h9) rfl dX11_unit_28 ?_
      refine lv_iconst (v := (nI 1)) hx hb dX11_unit_31 rfl ?_
      refine lv_iadd hx hb dX11_unit_32 ?_
      refine va_put (D := D) (ci := 11) (ty := .int) (C := RX11) (T := TX11) (N := 16) hx hb hts qX11_unit_X11 tyX11 tyX11_ok nmX11 hown hK hP hD hS 1 rfl rfl 9 (by decide) (hts _ kX11_unit_3) (fun _ h9 => h9) rfl (by decide +kernel) rfl (by first | rfl | exact zz_fit) (Nat.le_of_ble_eq_true rfl) dX11_unit_33 (fun H locs hP hD hS => ?_)
      have hP : va_P D vwCl [(a_t_now, .inl (cI, 1562, .inl t_now)), (a_t, .inr (11, [.int t_thrown, .ref a_t_now, .ref a_t_kept, .int t_isKept, .ref a_t_text, .int t_length, .ref a_t_passing, .int t_at_r2, .int t_fault, .int (t_open + (nI 1)), .int t_asked, .int t_byGun, .int t_prizeMost, .ref a_t_order, .ref a_t_times, .int t_listed])), (a_t_text, .inl (cB, 200, .inl t_text))] H := hP
      have hD : va_D A [(a_t_now, .inl (cI, 1562, .inl t_now)), (a_t, .inr (11, [.int t_thrown, .ref a_t_now, .ref a_t_kept, .int t_isKept, .ref a_t_text, .int t_length, .ref a_t_passing, .int t_at_r2, .int t_fault, .int (t_open + (nI 1)), .int t_asked, .int t_byGun, .int t_prizeMost, .ref a_t_order, .ref a_t_times, .int t_listed])), (a_t_text, .inl (cB, 200, .inl t_text))] := hD
      refine lv_aload_n hx hb dX11_unit_36 rfl (lv_at hl 1 rfl) ?_
      refine lv_dup hx hb dX11_unit_37 rfl ?_
      refine va_get (D := D) (ci := 11) (C := RX11) (T := TX11) (N := 16) hx hb hts qX11_unit_X11 hown hK hP 1 rfl rfl 7 (by decide) (hts _ kX11_unit_0) (fun _ h9 => h9) rfl dX11_unit_38 ?_
      refine lv_iconst (v := (nI 1)) hx hb dX11_unit_41 rfl ?_
      refine lv_iadd hx hb dX11_unit_42 ?_
      refine va_put (D := D) (ci := 11) (ty := .int) (C := RX11) (T := TX11) (N := 16) hx hb hts qX11_unit_X11 tyX11 tyX11_ok nmX11 hown hK hP hD hS 1 rfl rfl 7 (by decide) (hts _ kX11_unit_0) (fun _ h9 => h9) rfl (by decide +kernel) rfl (by first | rfl | exact zz_fit) (Nat.le_of_ble_eq_true rfl) dX11_unit_43 (fun H locs hP hD hS => ?_)
      have hP : va_P D vwCl [(a_t_now, .inl (cI, 1562, .inl t_now)), (a_t, .inr (11, [.int t_thrown, .ref a_t_now, .ref a_t_kept, .int t_isKept, .ref a_t_text, .int t_length, .ref a_t_passing, .int (t_at_r2 + (nI 1)), .int t_fault, .int (t_open + (nI 1)), .int t_asked, .int t_byGun, .int t_prizeMost, .ref a_t_order, .ref a_t_times, .int t_listed])), (a_t_text, .inl (cB, 200, .inl t_text))] H := hP
      have hD : va_D A [(a_t_now, .inl (cI, 1562, .inl t_now)), (a_t, .inr (11, [.int t_thrown, .ref a_t_now, .ref a_t_kept, .int t_isKept, .ref a_t_text, .int t_length, .ref a_t_passing, .int (t_at_r2 + (nI 1)), .int t_fault, .int (t_open + (nI 1)), .int t_asked, .int t_byGun, .int t_prizeMost, .ref a_t_order, .ref a_t_times, .int t_listed])), (a_t_text, .inl (cB, 200, .inl t_text))] := hD
      refine lv_aload_n hx hb dX11_unit_46 rfl (lv_at hl 1 rfl) ?_
      obtain ⟨⟨b39, t_at_r40, t_fault_r41, t_open_r42⟩, e43, h⟩ := zz_b h
      dsimp only at h
      refine zVi (As := []) (rest := []) (C := RX11) (wr := []) [1, 0, 2] [] 0 ⟨hx, hb, hml, hown, hts⟩ (mX11_tests_7 l D cB cI cZ a_t a_t_now a_t_kept a_t_text a_t_passing a_t_order a_t_times t_thrown t_isKept t_length (t_at_r2 + (nI 1)) t_fault (t_open + (nI 1)) t_asked t_byGun t_prizeMost t_listed t_now t_text H.size N b39 t_at_r40 t_fault_r41 t_open_r42 (hT ▸ e43)) (cwV 0 hts gX11_unit_X11_tests rfl rfl rfl (by decide +kernel) ⟨Nat.le_of_ble_eq_true rfl, Nat.le_of_ble_eq_true rfl⟩) hK hN hZ hP hD hS hA rfl rfl rfl rfl rfl rfl rfl rfl hl.1 rfl (lv_room (Nat.le_of_ble_eq_true rfl)) dX11_unit_47 ⟨Nat.le_of_ble_eq_true rfl, Nat.le_of_ble_eq_true rfl⟩ (fun H locs hP hD hS => ?_)
      have hP : va_P D vwCl [(a_t, .inr (11, [.int t_thrown, .ref a_t_now, .ref a_t_kept, .int t_isKept, .ref a_t_text, .int t_length, .ref a_t_passing, .int t_at_r40, .int t_fault_r41, .int t_open_r42, .int t_asked, .int t_byGun, .int t_prizeMost, .ref a_t_order, .ref a_t_times, .int t_listed])), (a_t_now, .inl (cI, 1562, .inl t_now)), (a_t_text, .inl (cB, 200, .inl t_text))] H := hP
      have hD : va_D A [(a_t, .inr (11, [.int t_thrown, .ref a_t_now, .ref a_t_kept, .int t_isKept, .ref a_t_text, .int t_length, .ref a_t_passing, .int t_at_r40, .int t_fault_r41, .int t_open_r42, .int t_asked, .int t_byGun, .int t_prizeMost, .ref a_t_order, .ref a_t_times, .int t_listed])), (a_t_now, .inl (cI, 1562, .inl t_now)), (a_t_text, .inl (cB, 200, .inl t_text))] := hD
      refine lv_istore_n (lv' := [(2, .int (zb b39)), (1, .int r1), (0, .ref a_t)]) hx hb dX11_unit_50 rfl hl (by decide) rfl (fun ls hl => ?_)
      refine lv_aload_n hx hb dX11_unit_51 rfl (lv_at hl 2 rfl) ?_
      refine lv_bipush (v := (nI 41)) hx hb dX11_unit_52 rfl ?_
      obtain ⟨⟨t_at_r44, t_fault_r45⟩, e46, h⟩ := zz_b h
      dsimp only at h
      refine zVv (As := [.int (nI 41)]) (rest := []) (C := RX11) (wr := [(a_t_now, .inl (cI, 1562, .inl t_now))]) [0, 2] [1] 0 ⟨hx, hb, hml, hown, hts⟩ (mX11_sign l D cB cI cZ a_t a_t_now a_t_kept a_t_text a_t_passing a_t_order a_t_times t_thrown t_isKept t_length t_at_r40 t_fault_r41 t_open_r42 t_asked t_byGun t_prizeMost t_listed t_text H.size (nI 41) N t_at_r44 t_fault_r45 e46) (cwV 1 hts gX11_unit_X11_sign rfl rfl rfl (by decide +kernel) ⟨Nat.le_of_ble_eq_true rfl, Nat.le_of_ble_eq_true rfl⟩) hK hN hZ hP hD hS hA rfl rfl rfl rfl rfl rfl rfl rfl hl.1 rfl (lv_room (Nat.le_of_ble_eq_true rfl)) dX11_unit_54 ⟨Nat.le_of_ble_eq_true rfl, Nat.le_of_ble_eq_true rfl⟩ (fun H locs hP hD hS => ?_)
      have hP : va_P D vwCl [(a_t_now, .inl (cI, 1562, .inl t_now)), (a_t, .inr (11, [.int t_thrown, .ref a_t_now, .ref a_t_kept, .int t_isKept, .ref a_t_text, .int t_length, .ref a_t_passing, .int t_at_r44, .int t_fault_r45, .int t_open_r42, .int t_asked, .int t_byGun, .int t_prizeMost, .ref a_t_order, .ref a_t_times, .int t_listed])), (a_t_text, .inl (cB, 200, .inl t_text))] H := hP
      have hD : va_D A [(a_t_now, .inl (cI, 1562, .inl t_now)), (a_t, .inr (11, [.int t_thrown, .ref a_t_now, .ref a_t_kept, .int t_isKept, .ref a_t_text, .int t_length, .ref a_t_passing, .int t_at_r44, .int t_fault_r45, .int t_open_r42, .int t_asked, .int t_byGun, .int t_prizeMost, .ref a_t_order, .ref a_t_times, .int t_listed])), (a_t_text, .inl (cB, 200, .inl t_text))] := hD
      refine lv_aload_n hx hb dX11_unit_57 rfl (lv_at hl 2 rfl) ?_
      refine lv_dup hx hb dX11_unit_58 rfl ?_
      refine va_get (D := D) (ci := 11) (C := RX11) (T := TX11) (N := 16) hx hb hts qX11_unit_X11 hown hK hP 1 rfl rfl 9 (by decide) (hts _ kX11_unit_3) (fun _ h9 => h9) rfl dX11_unit_59 ?_
      refine lv_iconst (v := (nI 1)) hx hb dX11_unit_62 rfl ?_
      refine lv_isub hx hb dX11_unit_63 ?_
      refine va_put (D := D) (ci := 11) (ty := .int) (C := RX11) (T := TX11) (N := 16) hx hb hts qX11_unit_X11 tyX11 tyX11_ok nmX11 hown hK hP hD hS 1 rfl rfl 9 (by decide) (hts _ kX11_unit_3) (fun _ h9 => h9) rfl (by decide +kernel) rfl (by first | rfl | exact zz_fit) (Nat.le_of_ble_eq_true rfl) dX11_unit_64 (fun H locs hP hD hS => ?_)
      have hP : va_P D vwCl [(a_t_now, .inl (cI, 1562, .inl t_now)), (a_t, .inr (11, [.int t_thrown, .ref a_t_now, .ref a_t_kept, .int t_isKept, .ref a_t_text, .int t_length, .ref a_t_passing, .int t_at_r44, .int t_fault_r45, .int (t_open_r42 - (nI 1)), .int t_asked, .int t_byGun, .int t_prizeMost, .ref a_t_order, .ref a_t_times, .int t_listed])), (a_t_text, .inl (cB, 200, .inl t_text))] H := hP
      have hD : va_D A [(a_t_now, .inl (cI, 1562, .inl t_now)), (a_t, .inr (11, [.int t_thrown, .ref a_t_now, .ref a_t_kept, .int t_isKept, .ref a_t_text, .int t_length, .ref a_t_passing, .int t_at_r44, .int t_fault_r45, .int (t_open_r42 - (nI 1)), .int t_asked, .int t_byGun, .int t_prizeMost, .ref a_t_order, .ref a_t_times, .int t_listed])), (a_t_text, .inl (cB, 200, .inl t_text))] := hD
      refine lv_iload_n hx hb dX11_unit_67 rfl (lv_at hl 0 rfl) ?_
      obtain ⟨j0_, g_⟩ := Prod.mk.inj (Option.some.inj h)
      obtain ⟨j1_, g_⟩ := Prod.mk.inj g_
      obtain ⟨j2_, g_⟩ := Prod.mk.inj g_
      have j3_ := g_
      subst j0_
      subst j1_
      subst j2_
      subst j3_
      exact W.zret (v := (zb b39)) hx hb hr zz_n (fun t ht hW => ⟨⟨_, (), rfl, rfl, zPost.of hP hD hK ht hW [1, 0, 2] rfl rfl rfl⟩, hS.F ht⟩) hS.2.2 dX11_unit_68
    · have h := zz_t h c38
      refine lv_aload_n hx hb dX11_unit_20 rfl (lv_at hl 1 rfl) ?_
      obtain ⟨t_fault_r47, e48, h⟩ := zz_b h
      refine zVv (As := []) (rest := []) (C := RX11) (wr := [(a_t_now, .inl (cI, 1562, .inl t_now)), (a_t_text, .inl (cB, 200, .inl t_text))]) [1] [0, 2] 0 ⟨hx, hb, hml, hown, hts⟩ (mX11_wrong l D cB cI cZ a_t a_t_now a_t_kept a_t_text a_t_passing a_t_order a_t_times t_thrown t_isKept t_length t_at_r2 t_fault t_open t_asked t_byGun t_prizeMost t_listed H.size t_fault_r47 e48) (cwV 0 hts gX11_unit_X11_wrong rfl rfl rfl (by decide +kernel) ⟨Nat.le_of_ble_eq_true rfl, Nat.le_of_ble_eq_true rfl⟩) hK hN hZ hP hD hS hA rfl rfl rfl rfl rfl rfl rfl rfl hl.1 rfl (lv_room (Nat.le_of_ble_eq_true rfl)) dX11_unit_21 ⟨Nat.le_of_ble_eq_true rfl, Nat.le_of_ble_eq_true rfl⟩ (fun H locs hP hD hS => ?_)
      have hP : va_P D vwCl [(a_t_now, .inl (cI, 1562, .inl t_now)), (a_t_text, .inl (cB, 200, .inl t_text)), (a_t, .inr (11, [.int t_thrown, .ref a_t_now, .ref a_t_kept, .int t_isKept, .ref a_t_text, .int t_length, .ref a_t_passing, .int t_at_r2, .int t_fault_r47, .int t_open, .int t_asked, .int t_byGun, .int t_prizeMost, .ref a_t_order, .ref a_t_times, .int t_listed]))] H := hP
      have hD : va_D A [(a_t_now, .inl (cI, 1562, .inl t_now)), (a_t_text, .inl (cB, 200, .inl t_text)), (a_t, .inr (11, [.int t_thrown, .ref a_t_now, .ref a_t_kept, .int t_isKept, .ref a_t_text, .int t_length, .ref a_t_passing, .int t_at_r2, .int t_fault_r47, .int t_open, .int t_asked, .int t_byGun, .int t_prizeMost, .ref a_t_order, .ref a_t_times, .int t_listed]))] := hD
      refine lv_iconst (v := (nI 0)) hx hb dX11_unit_24 rfl ?_
      obtain ⟨j0_, g_⟩ := Prod.mk.inj (Option.some.inj h)
      obtain ⟨j1_, g_⟩ := Prod.mk.inj g_
      obtain ⟨j2_, g_⟩ := Prod.mk.inj g_
      have j3_ := g_
      subst j0_
      subst j1_
      subst j2_
      subst j3_
      exact W.zret (v := (nI 0)) hx hb hr rfl (fun t ht hW => ⟨⟨_, (), rfl, rfl, zPost.of hP hD hK ht hW [2, 0, 1] rfl rfl rfl⟩, hS.F ht⟩) hS.2.2 dX11_unit_25
set_option maxHeartbeats 4000000 in
set_option maxRecDepth 100000 in
theorem mX11_part_8 (l : Launch) (D : va_G) (cB cI cZ : ClassId) (a_t : Nat) (a_t_now : Nat) (a_t_kept : Nat) (a_t_text : Nat) (a_t_passing : Nat) (a_t_order : Nat) (a_t_times : Nat) (t_thrown : Int32) (t_isKept : Int32) (t_length : Int32) (t_at : Int32) (t_fault : Int32) (t_open : Int32) (t_asked : Int32) (t_byGun : Int32) (t_prizeMost : Int32) (t_listed : Int32) (t_now : Nat → Int32) (t_text : Nat → Int32) (sz : Nat) (N : Nat) (T : Int32 → Int32 → Int32 → Int32 → Int32 → (Nat → Int32) → (Nat → Int32) → Option (Bool × Int32 × Int32 × Int32)) (hT : T = fX11_testsD N 8) (b0 : Bool) (t_at' : Int32) (t_fault' : Int32) (t_open' : Int32) (h : fX11_part T N t_asked t_at t_fault t_length t_open t_now t_text = some (b0, t_at', t_fault', t_open')) : Met l yX11_part wsX11_part ({ frames := 27, cells := 0, slots := 0, locals := 619 } : Room) (va_Pc [.ref a_t] (zPre D (zT cB cI cZ) [(a_t, .inr (11, [.int t_thrown, .ref a_t_now, .ref a_t_kept, .int t_isKept, .ref a_t_text, .int t_length, .ref a_t_passing, .int t_at, .int t_fault, .int t_open, .int t_asked, .int t_byGun, .int t_prizeMost, .ref a_t_order, .ref a_t_times, .int t_listed])), (a_t_now, .inl (cI, 1562, .inl t_now)), (a_t_text, .inl (cB, 200, .inl t_text))] sz)) (zQi (zb b0) D (zT cB cI cZ) [(a_t, .inr (11, [.int t_thrown, .ref a_t_now, .ref a_t_kept, .int t_isKept, .ref a_t_text, .int t_length, .ref a_t_passing, .int t_at', .int t_fault', .int t_open', .int t_asked, .int t_byGun, .int t_prizeMost, .ref a_t_order, .ref a_t_times, .int t_listed])), (a_t_now, .inl (cI, 1562, .inl t_now)), (a_t_text, .inl (cB, 200, .inl t_text))] (va_A [(a_t, .inr (11, [.int t_thrown, .ref a_t_now, .ref a_t_kept, .int t_isKept, .ref a_t_text, .int t_length, .ref a_t_passing, .int t_at, .int t_fault, .int t_open, .int t_asked, .int t_byGun, .int t_prizeMost, .ref a_t_order, .ref a_t_times, .int t_listed])), (a_t_now, .inl (cI, 1562, .inl t_now)), (a_t_text, .inl (cB, 200, .inl t_text))] sz)) 0 0 (va_A [(a_t, .inr (11, [.int t_thrown, .ref a_t_now, .ref a_t_kept, .int t_isKept, .ref a_t_text, .int t_length, .ref a_t_passing, .int t_at, .int t_fault, .int t_open, .int t_asked, .int t_byGun, .int t_prizeMost, .ref a_t_order, .ref a_t_times, .int t_listed])), (a_t_now, .inl (cI, 1562, .inl t_now)), (a_t_text, .inl (cB, 200, .inl t_text))] sz) := by
  refine Met.ofW (cc := cX11_part) (maxL := 3) (ret := (some .boolean)) (by decide) rfl ?_
  intro p e s m args below meth c s₁ B hml hv
  obtain ⟨rfl, hsz, hP, hK, hN, hZ, hD0⟩ := hv
  have hx := B.exec
  have hb := B.bytes
  have hr := B.returns
  have hts := atoms_spec (ws := wsX11_part) B.pre
  have hown : s.vm.findClass RX11 = some m.cls := findClass_of_methodNamed B.named
  have hlocks := B.notSynchronized
  subst hsz
  have hD := hD0.self (sz := s.heap.size)
  generalize hAe : va_A [(a_t, .inr (11, [.int t_thrown, .ref a_t_now, .ref a_t_kept, .int t_isKept, .ref a_t_text, .int t_length, .ref a_t_passing, .int t_at, .int t_fault, .int t_open, .int t_asked, .int t_byGun, .int t_prizeMost, .ref a_t_order, .ref a_t_times, .int t_listed])), (a_t_now, .inl (cI, 1562, .inl t_now)), (a_t_text, .inl (cB, 200, .inl t_text))] s.heap.size = A at hD hZ ⊢
  have hA : ∀ q : Nat, s.heap.size ≤ q → A q := fun q h => by rw [← hAe]; exact Or.inr h
  have hS : va_S A s.heap s.heap [] := va_S.rf
  have hl := lv_entry ([.ref a_t]) (n := 3) (Nat.le_of_ble_eq_true rfl)
  rw [lg_entry_eq]
  generalize (lg_sl ([.ref a_t]) ++ List.replicate (3 - (lg_sl ([.ref a_t])).length) Slot.unset).toArray = ls at hl ⊢
  have hl : lv_has ls 3 [(0, .ref a_t)] := hl
  unfold fX11_part at h
  refine lv_aload_n hx hb dX11_part_0 rfl (lv_at hl 0 rfl) ?_
  obtain ⟨⟨b1, t_at_r2, t_fault_r3, t_open_r4⟩, e5, h⟩ := zz_b h
  dsimp only at h
  refine zVi (As := []) (rest := []) (C := RX11) (wr := []) [0, 1, 2] [] 0 ⟨hx, hb, hml, hown, hts⟩ (mX11_unit_8 l D cB cI cZ a_t a_t_now a_t_kept a_t_text a_t_passing a_t_order a_t_times t_thrown t_isKept t_length t_at t_fault t_open t_asked t_byGun t_prizeMost t_listed t_now t_text s.heap.size N T hT b1 t_at_r2 t_fault_r3 t_open_r4 e5) (cwV 0 hts gX11_part_X11_unit rfl rfl rfl (by decide +kernel) ⟨Nat.le_of_ble_eq_true rfl, Nat.le_of_ble_eq_true rfl⟩) hK hN hZ hP hD hS hA rfl rfl rfl rfl rfl rfl rfl rfl hl.1 rfl (lv_room (Nat.le_of_ble_eq_true rfl)) dX11_part_1 ⟨Nat.le_of_ble_eq_true rfl, Nat.le_of_ble_eq_true rfl⟩ (fun H locs hP hD hS => ?_)
  have hP : va_P D vwCl [(a_t, .inr (11, [.int t_thrown, .ref a_t_now, .ref a_t_kept, .int t_isKept, .ref a_t_text, .int t_length, .ref a_t_passing, .int t_at_r2, .int t_fault_r3, .int t_open_r4, .int t_asked, .int t_byGun, .int t_prizeMost, .ref a_t_order, .ref a_t_times, .int t_listed])), (a_t_now, .inl (cI, 1562, .inl t_now)), (a_t_text, .inl (cB, 200, .inl t_text))] H := hP
  have hD : va_D A [(a_t, .inr (11, [.int t_thrown, .ref a_t_now, .ref a_t_kept, .int t_isKept, .ref a_t_text, .int t_length, .ref a_t_passing, .int t_at_r2, .int t_fault_r3, .int t_open_r4, .int t_asked, .int t_byGun, .int t_prizeMost, .ref a_t_order, .ref a_t_times, .int t_listed])), (a_t_now, .inl (cI, 1562, .inl t_now)), (a_t_text, .inl (cB, 200, .inl t_text))] := hD
  refine lv_istore_n (lv' := [(1, .int (zb b1)), (0, .ref a_t)]) hx hb dX11_part_4 rfl hl (by decide) rfl (fun ls hl => ?_)
  have X5_53 : ∀ (v1_5 : Bool) (t_at_l5 : Int32) (t_fault_l5 : Int32) (t_open_l5 : Int32) (H : Heap) (locs : List Loc) (ls : Array Slot), some (v1_5, t_at_l5, t_fault_l5, t_open_l5) = some (b0, t_at', t_fault', t_open') → va_P D vwCl [(a_t, .inr (11, [.int t_thrown, .ref a_t_now, .ref a_t_kept, .int t_isKept, .ref a_t_text, .int t_length, .ref a_t_passing, .int t_at_l5, .int t_fault_l5, .int t_open_l5, .int t_asked, .int t_byGun, .int t_prizeMost, .ref a_t_order, .ref a_t_times, .int t_listed])), (a_t_now, .inl (cI, 1562, .inl t_now)), (a_t_text, .inl (cB, 200, .inl t_text))] H → va_D A [(a_t, .inr (11, [.int t_thrown, .ref a_t_now, .ref a_t_kept, .int t_isKept, .ref a_t_text, .int t_length, .ref a_t_passing, .int t_at_l5, .int t_fault_l5, .int t_open_l5, .int t_asked, .int t_byGun, .int t_prizeMost, .ref a_t_order, .ref a_t_times, .int t_listed])), (a_t_now, .inl (cI, 1562, .inl t_now)), (a_t_text, .inl (cB, 200, .inl t_text))] → va_S A s.heap H locs → lv_has ls 3 [(1, .int (zb v1_5)), (0, .ref a_t)] → W p l e (headSpec wsX11_part ({ frames := 27, cells := 0, slots := 0, locals := 619 } : Room)).room s m #[Value.ref a_t] below meth c H locs 0 0 (MQ below (zQi (zb b0) D (zT cB cI cZ) [(a_t, .inr (11, [.int t_thrown, .ref a_t_now, .ref a_t_kept, .int t_isKept, .ref a_t_text, .int t_length, .ref a_t_passing, .int t_at', .int t_fault', .int t_open', .int t_asked, .int t_byGun, .int t_prizeMost, .ref a_t_order, .ref a_t_times, .int t_listed])), (a_t_now, .inl (cI, 1562, .inl t_now)), (a_t_text, .inl (cB, 200, .inl t_text))] A) #[Value.ref a_t] s 0 0 A) (F0 m 53 ls []) := by
    intro v1_5 t_at_l5 t_fault_l5 t_open_l5 H locs ls h hP hD hS hl
    refine lv_iload_n hx hb dX11_part_53 rfl (lv_at hl 0 rfl) ?_
    obtain ⟨j0_, g_⟩ := Prod.mk.inj (Option.some.inj h)
    obtain ⟨j1_, g_⟩ := Prod.mk.inj g_
    obtain ⟨j2_, g_⟩ := Prod.mk.inj g_
    have j3_ := g_
    subst j0_
    subst j1_
    subst j2_
    subst j3_
    exact W.zret (v := (zb v1_5)) hx hb hr zz_n (fun t ht hW => ⟨⟨_, (), rfl, rfl, zPost.of hP hD hK ht hW [0, 1, 2] rfl rfl rfl⟩, hS.F ht⟩) hS.2.2 dX11_part_54
  have L5 : ∀ (n : Nat) (v1_5 : Bool) (t_at_l5 : Int32) (t_fault_l5 : Int32) (t_open_l5 : Int32) (H : Heap) (locs : List Loc) (ls : Array Slot), fX11_part_L5 N T t_length t_asked t_now t_text (fun (v1_5 : Bool) (t_at_l5 : Int32) (t_fault_l5 : Int32) (t_open_l5 : Int32) => some (v1_5, t_at_l5, t_fault_l5, t_open_l5)) n v1_5 t_at_l5 t_fault_l5 t_open_l5 = some (b0, t_at', t_fault', t_open') → va_P D vwCl [(a_t, .inr (11, [.int t_thrown, .ref a_t_now, .ref a_t_kept, .int t_isKept, .ref a_t_text, .int t_length, .ref a_t_passing, .int t_at_l5, .int t_fault_l5, .int t_open_l5, .int t_asked, .int t_byGun, .int t_prizeMost, .ref a_t_order, .ref a_t_times, .int t_listed])), (a_t_now, .inl (cI, 1562, .inl t_now)), (a_t_text, .inl (cB, 200, .inl t_text))] H → va_D A [(a_t, .inr (11, [.int t_thrown, .ref a_t_now, .ref a_t_kept, .int t_isKept, .ref a_t_text, .int t_length, .ref a_t_passing, .int t_at_l5, .int t_fault_l5, .int t_open_l5, .int t_asked, .int t_byGun, .int t_prizeMost, .ref a_t_order, .ref a_t_times, .int t_listed])), (a_t_now, .inl (cI, 1562, .inl t_now)), (a_t_text, .inl (cB, 200, .inl t_text))] → va_S A s.heap H locs → lv_has ls 3 [(1, .int (zb v1_5)), (0, .ref a_t)] → W p l e (headSpec wsX11_part ({ frames := 27, cells := 0, slots := 0, locals := 619 } : Room)).room s m #[Value.ref a_t] below meth c H locs 0 0 (MQ below (zQi (zb b0) D (zT cB cI cZ) [(a_t, .inr (11, [.int t_thrown, .ref a_t_now, .ref a_t_kept, .int t_isKept, .ref a_t_text, .int t_length, .ref a_t_passing, .int t_at', .int t_fault', .int t_open', .int t_asked, .int t_byGun, .int t_prizeMost, .ref a_t_order, .ref a_t_times, .int t_listed])), (a_t_now, .inl (cI, 1562, .inl t_now)), (a_t_text, .inl (cB, 200, .inl t_text))] A) #[Value.ref a_t] s 0 0 A) (F0 m 5 ls []) := by
    intro n
    induction n with
    | zero => intro _ _ _ _ H locs ls h hP hD hS hl; cases h
    | succ n5 ih5 =>
      intro v1_5 t_at_l5 t_fault_l5 t_open_l5 H locs ls h hP hD hS hl
      rw [fX11_part_L5.eq_2] at h
      refine lv_aload_n hx hb dX11_part_5 rfl (lv_at hl 1 rfl) ?_
      obtain ⟨b6, e7, h⟩ := zz_b h
      refine zVi (As := []) (rest := []) (C := RX11) (wr := [(a_t_now, .inl (cI, 1562, .inl t_now)), (a_t_text, .inl (cB, 200, .inl t_text))]) [0] [1, 2] 0 ⟨hx, hb, hml, hown, hts⟩ (mX11_isFine l D cB cI cZ a_t a_t_now a_t_kept a_t_text a_t_passing a_t_order a_t_times t_thrown t_isKept t_length t_at_l5 t_fault_l5 t_open_l5 t_asked t_byGun t_prizeMost t_listed H.size b6 e7) (cwV 0 hts gX11_part_X11_isFine rfl rfl rfl (by decide +kernel) ⟨Nat.le_of_ble_eq_true rfl, Nat.le_of_ble_eq_true rfl⟩) hK hN hZ hP hD hS hA rfl rfl rfl rfl rfl rfl rfl rfl hl.1 rfl (lv_room (Nat.le_of_ble_eq_true rfl)) dX11_part_6 ⟨Nat.le_of_ble_eq_true rfl, Nat.le_of_ble_eq_true rfl⟩ (fun H locs hP hD hS => ?_)
      have hP : va_P D vwCl [(a_t_now, .inl (cI, 1562, .inl t_now)), (a_t_text, .inl (cB, 200, .inl t_text)), (a_t, .inr (11, [.int t_thrown, .ref a_t_now, .ref a_t_kept, .int t_isKept, .ref a_t_text, .int t_length, .ref a_t_passing, .int t_at_l5, .int t_fault_l5, .int t_open_l5, .int t_asked, .int t_byGun, .int t_prizeMost, .ref a_t_order, .ref a_t_times, .int t_listed]))] H := hP
      have hD : va_D A [(a_t_now, .inl (cI, 1562, .inl t_now)), (a_t_text, .inl (cB, 200, .inl t_text)), (a_t, .inr (11, [.int t_thrown, .ref a_t_now, .ref a_t_kept, .int t_isKept, .ref a_t_text, .int t_length, .ref a_t_passing, .int t_at_l5, .int t_fault_l5, .int t_open_l5, .int t_asked, .int t_byGun, .int t_prizeMost, .ref a_t_order, .ref a_t_times, .int t_listed]))] := hD
      refine lv_if_eq (tgt := 53) hx hb dX11_part_9 (by decide) (fun c8 => ?_) (fun c8 => ?_)
      · have h := zz_t h c8
        exact X5_53 v1_5 t_at_l5 t_fault_l5 t_open_l5 _ _ _ h (hP.sub [2, 0, 1] rfl) (hD.sub [2, 0, 1] rfl rfl) hS (lv_sub hl [0, 1] rfl)
      · have h := zz_f h c8
        refine lv_aload_n hx hb dX11_part_12 rfl (lv_at hl 1 rfl) ?_
        obtain ⟨⟨r9, t_at_r10⟩, e11, h⟩ := zz_b h
        dsimp only at h
        refine zVi (As := []) (rest := []) (C := RX11) (wr := [(a_t_now, .inl (cI, 1562, .inl t_now))]) [2, 1] [0] 0 ⟨hx, hb, hml, hown, hts⟩ (mX11_look l D cB cI cZ a_t a_t_now a_t_kept a_t_text a_t_passing a_t_order a_t_times t_thrown t_isKept t_length t_at_l5 t_fault_l5 t_open_l5 t_asked t_byGun t_prizeMost t_listed t_text H.size N r9 t_at_r10 e11) (cwV 0 hts gX11_part_X11_look rfl rfl rfl (by decide +kernel) ⟨Nat.le_of_ble_eq_true rfl, Nat.le_of_ble_eq_true rfl⟩) hK hN hZ hP hD hS hA rfl rfl rfl rfl rfl rfl rfl rfl hl.1 rfl (lv_room (Nat.le_of_ble_eq_true rfl)) dX11_part_13 ⟨Nat.le_of_ble_eq_true rfl, Nat.le_of_ble_eq_true rfl⟩ (fun H locs hP hD hS => ?_)
        have hP : va_P D vwCl [(a_t_now, .inl (cI, 1562, .inl t_now)), (a_t, .inr (11, [.int t_thrown, .ref a_t_now, .ref a_t_kept, .int t_isKept, .ref a_t_text, .int t_length, .ref a_t_passing, .int t_at_r10, .int t_fault_l5, .int t_open_l5, .int t_asked, .int t_byGun, .int t_prizeMost, .ref a_t_order, .ref a_t_times, .int t_listed])), (a_t_text, .inl (cB, 200, .inl t_text))] H := hP
        have hD : va_D A [(a_t_now, .inl (cI, 1562, .inl t_now)), (a_t, .inr (11, [.int t_thrown, .ref a_t_now, .ref a_t_kept, .int t_isKept, .ref a_t_text, .int t_length, .ref a_t_passing, .int t_at_r10, .int t_fault_l5, .int t_open_l5, .int t_asked, .int t_byGun, .int t_prizeMost, .ref a_t_order, .ref a_t_times, .int t_listed])), (a_t_text, .inl (cB, 200, .inl t_text))] := hD
        refine lv_bipush (v := (nI 38)) hx hb dX11_part_16 rfl ?_
        refine lv_icmp_ne (tgt := 53) hx hb dX11_part_18 (by decide) (fun c12 => ?_) (fun c12 => ?_)
        · have h := zz_f h c12
          exact X5_53 v1_5 t_at_r10 t_fault_l5 t_open_l5 _ _ _ h (hP.sub [1, 0, 2] rfl) (hD.sub [1, 0, 2] rfl rfl) hS (lv_sub hl [0, 1] rfl)
        · have h := zz_t h c12
          refine lv_aload_n hx hb dX11_part_21 rfl (lv_at hl 1 rfl) ?_
          refine lv_dup hx hb dX11_part_22 rfl ?_
          refine va_get (D := D) (ci := 11) (C := RX11) (T := TX11) (N := 16) hx hb hts qX11_part_X11 hown hK hP 1 rfl rfl 7 (by decide) (hts _ kX11_part_0) (fun _ h9 => h9) rfl dX11_part_23 ?_
          refine lv_iconst (v := (nI 1)) hx hb dX11_part_26 rfl ?_
          refine lv_iadd hx hb dX11_part_27 ?_
          refine va_put (D := D) (ci := 11) (ty := .int) (C := RX11) (T := TX11) (N := 16) hx hb hts qX11_part_X11 tyX11 tyX11_ok nmX11 hown hK hP hD hS 1 rfl rfl 7 (by decide) (hts _ kX11_part_0) (fun _ h9 => h9) rfl (by decide +kernel) rfl (by first | rfl | exact zz_fit) (Nat.le_of_ble_eq_true rfl) dX11_part_28 (fun H locs hP hD hS => ?_)
          have hP : va_P D vwCl [(a_t_now, .inl (cI, 1562, .inl t_now)), (a_t, .inr (11, [.int t_thrown, .ref a_t_now, .ref a_t_kept, .int t_isKept, .ref a_t_text, .int t_length, .ref a_t_passing, .int (t_at_r10 + (nI 1)), .int t_fault_l5, .int t_open_l5, .int t_asked, .int t_byGun, .int t_prizeMost, .ref a_t_order, .ref a_t_times, .int t_listed])), (a_t_text, .inl (cB, 200, .inl t_text))] H := hP
          have hD : va_D A [(a_t_now, .inl (cI, 1562, .inl t_now)), (a_t, .inr (11, [.int t_thrown, .ref a_t_now, .ref a_t_kept, .int t_isKept, .ref a_t_text, .int t_length, .ref a_t_passing, .int (t_at_r10 + (nI 1)), .int t_fault_l5, .int t_open_l5, .int t_asked, .int t_byGun, .int t_prizeMost, .ref a_t_order, .ref a_t_times, .int t_listed])), (a_t_text, .inl (cB, 200, .inl t_text))] := hD
          refine lv_aload_n hx hb dX11_part_31 rfl (lv_at hl 1 rfl) ?_
          obtain ⟨⟨b13, t_at_r14, t_fault_r15, t_open_r16⟩, e17, h⟩ := zz_b h
          dsimp only at h
          refine zVi (As := []) (rest := []) (C := RX11) (wr := []) [1, 0, 2] [] 0 ⟨hx, hb, hml, hown, hts⟩ (mX11_unit_8 l D cB cI cZ a_t a_t_now a_t_kept a_t_text a_t_passing a_t_order a_t_times t_thrown t_isKept t_length (t_at_r10 + (nI 1)) t_fault_l5 t_open_l5 t_asked t_byGun t_prizeMost t_listed t_now t_text H.size N T hT b13 t_at_r14 t_fault_r15 t_open_r16 e17) (cwV 0 hts gX11_part_X11_unit rfl rfl rfl (by decide +kernel) ⟨Nat.le_of_ble_eq_true rfl, Nat.le_of_ble_eq_true rfl⟩) hK hN hZ hP hD hS hA rfl rfl rfl rfl rfl rfl rfl rfl hl.1 rfl (lv_room (Nat.le_of_ble_eq_true rfl)) dX11_part_32 ⟨Nat.le_of_ble_eq_true rfl, Nat.le_of_ble_eq_true rfl⟩ (fun H locs hP hD hS => ?_)
          have hP : va_P D vwCl [(a_t, .inr (11, [.int t_thrown, .ref a_t_now, .ref a_t_kept, .int t_isKept, .ref a_t_text, .int t_length, .ref a_t_passing, .int t_at_r14, .int t_fault_r15, .int t_open_r16, .int t_asked, .int t_byGun, .int t_prizeMost, .ref a_t_order, .ref a_t_times, .int t_listed])), (a_t_now, .inl (cI, 1562, .inl t_now)), (a_t_text, .inl (cB, 200, .inl t_text))] H := hP
          have hD : va_D A [(a_t, .inr (11, [.int t_thrown, .ref a_t_now, .ref a_t_kept, .int t_isKept, .ref a_t_text, .int t_length, .ref a_t_passing, .int t_at_r14, .int t_fault_r15, .int t_open_r16, .int t_asked, .int t_byGun, .int t_prizeMost, .ref a_t_order, .ref a_t_times, .int t_listed])), (a_t_now, .inl (cI, 1562, .inl t_now)), (a_t_text, .inl (cB, 200, .inl t_text))] := hD
          refine lv_istore_n (lv' := [(2, .int (zb b13)), (1, .int (zb v1_5)), (0, .ref a_t)]) hx hb dX11_part_35 rfl hl (by decide) rfl (fun ls hl => ?_)
          refine lv_iload_n hx hb dX11_part_36 rfl (lv_at hl 1 rfl) ?_
          refine lv_if_eq (tgt := 48) hx hb dX11_part_37 (by decide) (fun c18 => ?_) (fun c18 => ?_)
          · have h := zz_t h c18
            refine lv_iconst (v := (nI 0)) hx hb dX11_part_48 rfl ?_
            refine lv_istore_n (lv' := [(1, .int (nI 0)), (2, .int (zb b13)), (0, .ref a_t)]) hx hb dX11_part_49 rfl hl (by decide) rfl (fun ls hl => ?_)
            refine lv_goto (tgt := 5) hx hb dX11_part_50 (by decide) ?_
            exact ih5 false t_at_r14 t_fault_r15 t_open_r16 _ _ _ h (hP.sub [0, 1, 2] rfl) (hD.sub [0, 1, 2] rfl rfl) hS (lv_sub hl [0, 2] rfl)
          · have h := zz_f h c18
            refine lv_iload_n hx hb dX11_part_40 rfl (lv_at hl 0 rfl) ?_
            refine lv_if_eq (tgt := 48) hx hb dX11_part_41 (by decide) (fun c19 => ?_) (fun c19 => ?_)
            · have h := zz_t h c19
              refine lv_iconst (v := (nI 0)) hx hb dX11_part_48 rfl ?_
              refine lv_istore_n (lv' := [(1, .int (nI 0)), (2, .int (zb b13)), (0, .ref a_t)]) hx hb dX11_part_49 rfl hl (by decide) rfl (fun ls hl => ?_)
              refine lv_goto (tgt := 5) hx hb dX11_part_50 (by decide) ?_
              exact ih5 false t_at_r14 t_fault_r15 t_open_r16 _ _ _ h (hP.sub [0, 1, 2] rfl) (hD.sub [0, 1, 2] rfl rfl) hS (lv_sub hl [0, 2] rfl)
            · have h := zz_f h c19
              refine lv_iconst (v := (nI 1)) hx hb dX11_part_44 rfl ?_
              refine lv_goto (tgt := 49) hx hb dX11_part_45 (by decide) ?_
              refine lv_istore_n (lv' := [(1, .int (nI 1)), (2, .int (zb b13)), (0, .ref a_t)]) hx hb dX11_part_49 rfl hl (by decide) rfl (fun ls hl => ?_)
              refine lv_goto (tgt := 5) hx hb dX11_part_50 (by decide) ?_
              exact ih5 true t_at_r14 t_fault_r15 t_open_r16 _ _ _ h (hP.sub [0, 1, 2] rfl) (hD.sub [0, 1, 2] rfl rfl) hS (lv_sub hl [0, 2] rfl)
  exact L5 N b1 t_at_r2 t_fault_r3 t_open_r4 _ _ _ h hP hD hS hl
set_option maxHeartbeats 4000000 in
set_option maxRecDepth 100000 in
theorem mX11_tests_8 (l : Launch) (D : va_G) (cB cI cZ : ClassId) (a_t : Nat) (a_t_now : Nat) (a_t_kept : Nat) (a_t_text : Nat) (a_t_passing : Nat) (a_t_order : Nat) (a_t_times : Nat) (t_thrown : Int32) (t_isKept : Int32) (t_length : Int32) (t_at : Int32) (t_fault : Int32) (t_open : Int32) (t_asked : Int32) (t_byGun : Int32) (t_prizeMost : Int32) (t_listed : Int32) (t_now : Nat → Int32) (t_text : Nat → Int32) (sz : Nat) (N : Nat) (b0 : Bool) (t_at' : Int32) (t_fault' : Int32) (t_open' : Int32) (h : fX11_testsD N 9 t_asked t_at t_fault t_length t_open t_now t_text = some (b0, t_at', t_fault', t_open')) : Met l yX11_tests wsX11_tests ({ frames := 28, cells := 0, slots := 0, locals := 641 } : Room) (va_Pc [.ref a_t] (zPre D (zT cB cI cZ) [(a_t, .inr (11, [.int t_thrown, .ref a_t_now, .ref a_t_kept, .int t_isKept, .ref a_t_text, .int t_length, .ref a_t_passing, .int t_at, .int t_fault, .int t_open, .int t_asked, .int t_byGun, .int t_prizeMost, .ref a_t_order, .ref a_t_times, .int t_listed])), (a_t_now, .inl (cI, 1562, .inl t_now)), (a_t_text, .inl (cB, 200, .inl t_text))] sz)) (zQi (zb b0) D (zT cB cI cZ) [(a_t, .inr (11, [.int t_thrown, .ref a_t_now, .ref a_t_kept, .int t_isKept, .ref a_t_text, .int t_length, .ref a_t_passing, .int t_at', .int t_fault', .int t_open', .int t_asked, .int t_byGun, .int t_prizeMost, .ref a_t_order, .ref a_t_times, .int t_listed])), (a_t_now, .inl (cI, 1562, .inl t_now)), (a_t_text, .inl (cB, 200, .inl t_text))] (va_A [(a_t, .inr (11, [.int t_thrown, .ref a_t_now, .ref a_t_kept, .int t_isKept, .ref a_t_text, .int t_length, .ref a_t_passing, .int t_at, .int t_fault, .int t_open, .int t_asked, .int t_byGun, .int t_prizeMost, .ref a_t_order, .ref a_t_times, .int t_listed])), (a_t_now, .inl (cI, 1562, .inl t_now)), (a_t_text, .inl (cB, 200, .inl t_text))] sz)) 0 0 (va_A [(a_t, .inr (11, [.int t_thrown, .ref a_t_now, .ref a_t_kept, .int t_isKept, .ref a_t_text, .int t_length, .ref a_t_passing, .int t_at, .int t_fault, .int t_open, .int t_asked, .int t_byGun, .int t_prizeMost, .ref a_t_order, .ref a_t_times, .int t_listed])), (a_t_now, .inl (cI, 1562, .inl t_now)), (a_t_text, .inl (cB, 200, .inl t_text))] sz) := by
  refine Met.ofW (cc := cX11_tests) (maxL := 3) (ret := (some .boolean)) (by decide) rfl ?_
  intro p e s m args below meth c s₁ B hml hv
  obtain ⟨rfl, hsz, hP, hK, hN, hZ, hD0⟩ := hv
  have hx := B.exec
  have hb := B.bytes
  have hr := B.returns
  have hts := atoms_spec (ws := wsX11_tests) B.pre
  have hown : s.vm.findClass RX11 = some m.cls := findClass_of_methodNamed B.named
  have hlocks := B.notSynchronized
  subst hsz
  have hD := hD0.self (sz := s.heap.size)
  generalize hAe : va_A [(a_t, .inr (11, [.int t_thrown, .ref a_t_now, .ref a_t_kept, .int t_isKept, .ref a_t_text, .int t_length, .ref a_t_passing, .int t_at, .int t_fault, .int t_open, .int t_asked, .int t_byGun, .int t_prizeMost, .ref a_t_order, .ref a_t_times, .int t_listed])), (a_t_now, .inl (cI, 1562, .inl t_now)), (a_t_text, .inl (cB, 200, .inl t_text))] s.heap.size = A at hD hZ ⊢
  have hA : ∀ q : Nat, s.heap.size ≤ q → A q := fun q h => by rw [← hAe]; exact Or.inr h
  have hS : va_S A s.heap s.heap [] := va_S.rf
  have hl := lv_entry ([.ref a_t]) (n := 3) (Nat.le_of_ble_eq_true rfl)
  rw [lg_entry_eq]
  generalize (lg_sl ([.ref a_t]) ++ List.replicate (3 - (lg_sl ([.ref a_t])).length) Slot.unset).toArray = ls at hl ⊢
  have hl : lv_has ls 3 [(0, .ref a_t)] := hl
  obtain ⟨T, hT⟩ : ∃ T, T = fX11_testsD N 8 := ⟨_, rfl⟩; have h : fX11_tests_ T N t_asked t_at t_fault t_length t_open t_now t_text = some (b0, t_at', t_fault', t_open') := by rw [hT]; exact h
  unfold fX11_tests_ at h
  refine lv_aload_n hx hb dX11_tests_0 rfl (lv_at hl 0 rfl) ?_
  obtain ⟨⟨b1, t_at_r2, t_fault_r3, t_open_r4⟩, e5, h⟩ := zz_b h
  dsimp only at h
  refine zVi (As := []) (rest := []) (C := RX11) (wr := []) [0, 1, 2] [] 0 ⟨hx, hb, hml, hown, hts⟩ (mX11_part_8 l D cB cI cZ a_t a_t_now a_t_kept a_t_text a_t_passing a_t_order a_t_times t_thrown t_isKept t_length t_at t_fault t_open t_asked t_byGun t_prizeMost t_listed t_now t_text s.heap.size N T hT b1 t_at_r2 t_fault_r3 t_open_r4 e5) (cwV 0 hts gX11_tests_X11_part rfl rfl rfl (by decide +kernel) ⟨Nat.le_of_ble_eq_true rfl, Nat.le_of_ble_eq_true rfl⟩) hK hN hZ hP hD hS hA rfl rfl rfl rfl rfl rfl rfl rfl hl.1 rfl (lv_room (Nat.le_of_ble_eq_true rfl)) dX11_tests_1 ⟨Nat.le_of_ble_eq_true rfl, Nat.le_of_ble_eq_true rfl⟩ (fun H locs hP hD hS => ?_)
  have hP : va_P D vwCl [(a_t, .inr (11, [.int t_thrown, .ref a_t_now, .ref a_t_kept, .int t_isKept, .ref a_t_text, .int t_length, .ref a_t_passing, .int t_at_r2, .int t_fault_r3, .int t_open_r4, .int t_asked, .int t_byGun, .int t_prizeMost, .ref a_t_order, .ref a_t_times, .int t_listed])), (a_t_now, .inl (cI, 1562, .inl t_now)), (a_t_text, .inl (cB, 200, .inl t_text))] H := hP
  have hD : va_D A [(a_t, .inr (11, [.int t_thrown, .ref a_t_now, .ref a_t_kept, .int t_isKept, .ref a_t_text, .int t_length, .ref a_t_passing, .int t_at_r2, .int t_fault_r3, .int t_open_r4, .int t_asked, .int t_byGun, .int t_prizeMost, .ref a_t_order, .ref a_t_times, .int t_listed])), (a_t_now, .inl (cI, 1562, .inl t_now)), (a_t_text, .inl (cB, 200, .inl t_text))] := hD
  refine lv_istore_n (lv' := [(1, .int (zb b1)), (0, .ref a_t)]) hx hb dX11_tests_4 rfl hl (by decide) rfl (fun ls hl => ?_)
  have X5_53 : ∀ (v1_5 : Bool) (t_at_l5 : Int32) (t_fault_l5 : Int32) (t_open_l5 : Int32) (H : Heap) (locs : List Loc) (ls : Array Slot), some (v1_5, t_at_l5, t_fault_l5, t_open_l5) = some (b0, t_at', t_fault', t_open') → va_P D vwCl [(a_t, .inr (11, [.int t_thrown, .ref a_t_now, .ref a_t_kept, .int t_isKept, .ref a_t_text, .int t_length, .ref a_t_passing, .int t_at_l5, .int t_fault_l5, .int t_open_l5, .int t_asked, .int t_byGun, .int t_prizeMost, .ref a_t_order, .ref a_t_times, .int t_listed])), (a_t_now, .inl (cI, 1562, .inl t_now)), (a_t_text, .inl (cB, 200, .inl t_text))] H → va_D A [(a_t, .inr (11, [.int t_thrown, .ref a_t_now, .ref a_t_kept, .int t_isKept, .ref a_t_text, .int t_length, .ref a_t_passing, .int t_at_l5, .int t_fault_l5, .int t_open_l5, .int t_asked, .int t_byGun, .int t_prizeMost, .ref a_t_order, .ref a_t_times, .int t_listed])), (a_t_now, .inl (cI, 1562, .inl t_now)), (a_t_text, .inl (cB, 200, .inl t_text))] → va_S A s.heap H locs → lv_has ls 3 [(1, .int (zb v1_5)), (0, .ref a_t)] → W p l e (headSpec wsX11_tests ({ frames := 28, cells := 0, slots := 0, locals := 641 } : Room)).room s m #[Value.ref a_t] below meth c H locs 0 0 (MQ below (zQi (zb b0) D (zT cB cI cZ) [(a_t, .inr (11, [.int t_thrown, .ref a_t_now, .ref a_t_kept, .int t_isKept, .ref a_t_text, .int t_length, .ref a_t_passing, .int t_at', .int t_fault', .int t_open', .int t_asked, .int t_byGun, .int t_prizeMost, .ref a_t_order, .ref a_t_times, .int t_listed])), (a_t_now, .inl (cI, 1562, .inl t_now)), (a_t_text, .inl (cB, 200, .inl t_text))] A) #[Value.ref a_t] s 0 0 A) (F0 m 53 ls []) := by
    intro v1_5 t_at_l5 t_fault_l5 t_open_l5 H locs ls h hP hD hS hl
    refine lv_iload_n hx hb dX11_tests_53 rfl (lv_at hl 0 rfl) ?_
    obtain ⟨j0_, g_⟩ := Prod.mk.inj (Option.some.inj h)
    obtain ⟨j1_, g_⟩ := Prod.mk.inj g_
    obtain ⟨j2_, g_⟩ := Prod.mk.inj g_
    have j3_ := g_
    subst j0_
    subst j1_
    subst j2_
    subst j3_
    exact W.zret (v := (zb v1_5)) hx hb hr zz_n (fun t ht hW => ⟨⟨_, (), rfl, rfl, zPost.of hP hD hK ht hW [0, 1, 2] rfl rfl rfl⟩, hS.F ht⟩) hS.2.2 dX11_tests_54
  have L5 : ∀ (n : Nat) (v1_5 : Bool) (t_at_l5 : Int32) (t_fault_l5 : Int32) (t_open_l5 : Int32) (H : Heap) (locs : List Loc) (ls : Array Slot), fX11_tests_L5 N T t_length t_asked t_now t_text (fun (v1_5 : Bool) (t_at_l5 : Int32) (t_fault_l5 : Int32) (t_open_l5 : Int32) => some (v1_5, t_at_l5, t_fault_l5, t_open_l5)) n v1_5 t_at_l5 t_fault_l5 t_open_l5 = some (b0, t_at', t_fault', t_open') → va_P D vwCl [(a_t, .inr (11, [.int t_thrown, .ref a_t_now, .ref a_t_kept, .int t_isKept, .ref a_t_text, .int t_length, .ref a_t_passing, .int t_at_l5, .int t_fault_l5, .int t_open_l5, .int t_asked, .int t_byGun, .int t_prizeMost, .ref a_t_order, .ref a_t_times, .int t_listed])), (a_t_now, .inl (cI, 1562, .inl t_now)), (a_t_text, .inl (cB, 200, .inl t_text))] H → va_D A [(a_t, .inr (11, [.int t_thrown, .ref a_t_now, .ref a_t_kept, .int t_isKept, .ref a_t_text, .int t_length, .ref a_t_passing, .int t_at_l5, .int t_fault_l5, .int t_open_l5, .int t_asked, .int t_byGun, .int t_prizeMost, .ref a_t_order, .ref a_t_times, .int t_listed])), (a_t_now, .inl (cI, 1562, .inl t_now)), (a_t_text, .inl (cB, 200, .inl t_text))] → va_S A s.heap H locs → lv_has ls 3 [(1, .int (zb v1_5)), (0, .ref a_t)] → W p l e (headSpec wsX11_tests ({ frames := 28, cells := 0, slots := 0, locals := 641 } : Room)).room s m #[Value.ref a_t] below meth c H locs 0 0 (MQ below (zQi (zb b0) D (zT cB cI cZ) [(a_t, .inr (11, [.int t_thrown, .ref a_t_now, .ref a_t_kept, .int t_isKept, .ref a_t_text, .int t_length, .ref a_t_passing, .int t_at', .int t_fault', .int t_open', .int t_asked, .int t_byGun, .int t_prizeMost, .ref a_t_order, .ref a_t_times, .int t_listed])), (a_t_now, .inl (cI, 1562, .inl t_now)), (a_t_text, .inl (cB, 200, .inl t_text))] A) #[Value.ref a_t] s 0 0 A) (F0 m 5 ls []) := by
    intro n
    induction n with
    | zero => intro _ _ _ _ H locs ls h hP hD hS hl; cases h
    | succ n5 ih5 =>
      intro v1_5 t_at_l5 t_fault_l5 t_open_l5 H locs ls h hP hD hS hl
      rw [fX11_tests_L5.eq_2] at h
      refine lv_aload_n hx hb dX11_tests_5 rfl (lv_at hl 1 rfl) ?_
      obtain ⟨b6, e7, h⟩ := zz_b h
      refine zVi (As := []) (rest := []) (C := RX11) (wr := [(a_t_now, .inl (cI, 1562, .inl t_now)), (a_t_text, .inl (cB, 200, .inl t_text))]) [0] [1, 2] 0 ⟨hx, hb, hml, hown, hts⟩ (mX11_isFine l D cB cI cZ a_t a_t_now a_t_kept a_t_text a_t_passing a_t_order a_t_times t_thrown t_isKept t_length t_at_l5 t_fault_l5 t_open_l5 t_asked t_byGun t_prizeMost t_listed H.size b6 e7) (cwV 0 hts gX11_tests_X11_isFine rfl rfl rfl (by decide +kernel) ⟨Nat.le_of_ble_eq_true rfl, Nat.le_of_ble_eq_true rfl⟩) hK hN hZ hP hD hS hA rfl rfl rfl rfl rfl rfl rfl rfl hl.1 rfl (lv_room (Nat.le_of_ble_eq_true rfl)) dX11_tests_6 ⟨Nat.le_of_ble_eq_true rfl, Nat.le_of_ble_eq_true rfl⟩ (fun H locs hP hD hS => ?_)
      have hP : va_P D vwCl [(a_t_now, .inl (cI, 1562, .inl t_now)), (a_t_text, .inl (cB, 200, .inl t_text)), (a_t, .inr (11, [.int t_thrown, .ref a_t_now, .ref a_t_kept, .int t_isKept, .ref a_t_text, .int t_length, .ref a_t_passing, .int t_at_l5, .int t_fault_l5, .int t_open_l5, .int t_asked, .int t_byGun, .int t_prizeMost, .ref a_t_order, .ref a_t_times, .int t_listed]))] H := hP
      have hD : va_D A [(a_t_now, .inl (cI, 1562, .inl t_now)), (a_t_text, .inl (cB, 200, .inl t_text)), (a_t, .inr (11, [.int t_thrown, .ref a_t_now, .ref a_t_kept, .int t_isKept, .ref a_t_text, .int t_length, .ref a_t_passing, .int t_at_l5, .int t_fault_l5, .int t_open_l5, .int t_asked, .int t_byGun, .int t_prizeMost, .ref a_t_order, .ref a_t_times, .int t_listed]))] := hD
      refine lv_if_eq (tgt := 53) hx hb dX11_tests_9 (by decide) (fun c8 => ?_) (fun c8 => ?_)
      · have h := zz_t h c8
        exact X5_53 v1_5 t_at_l5 t_fault_l5 t_open_l5 _ _ _ h (hP.sub [2, 0, 1] rfl) (hD.sub [2, 0, 1] rfl rfl) hS (lv_sub hl [0, 1] rfl)
      · have h := zz_f h c8
        refine lv_aload_n hx hb dX11_tests_12 rfl (lv_at hl 1 rfl) ?_
        obtain ⟨⟨r9, t_at_r10⟩, e11, h⟩ := zz_b h
        dsimp only at h
        refine zVi (As := []) (rest := []) (C := RX11) (wr := [(a_t_now, .inl (cI, 1562, .inl t_now))]) [2, 1] [0] 0 ⟨hx, hb, hml, hown, hts⟩ (mX11_look l D cB cI cZ a_t a_t_now a_t_kept a_t_text a_t_passing a_t_order a_t_times t_thrown t_isKept t_length t_at_l5 t_fault_l5 t_open_l5 t_asked t_byGun t_prizeMost t_listed t_text H.size N r9 t_at_r10 e11) (cwV 0 hts gX11_tests_X11_look rfl rfl rfl (by decide +kernel) ⟨Nat.le_of_ble_eq_true rfl, Nat.le_of_ble_eq_true rfl⟩) hK hN hZ hP hD hS hA rfl rfl rfl rfl rfl rfl rfl rfl hl.1 rfl (lv_room (Nat.le_of_ble_eq_true rfl)) dX11_tests_13 ⟨Nat.le_of_ble_eq_true rfl, Nat.le_of_ble_eq_true rfl⟩ (fun H locs hP hD hS => ?_)
        have hP : va_P D vwCl [(a_t_now, .inl (cI, 1562, .inl t_now)), (a_t, .inr (11, [.int t_thrown, .ref a_t_now, .ref a_t_kept, .int t_isKept, .ref a_t_text, .int t_length, .ref a_t_passing, .int t_at_r10, .int t_fault_l5, .int t_open_l5, .int t_asked, .int t_byGun, .int t_prizeMost, .ref a_t_order, .ref a_t_times, .int t_listed])), (a_t_text, .inl (cB, 200, .inl t_text))] H := hP
        have hD : va_D A [(a_t_now, .inl (cI, 1562, .inl t_now)), (a_t, .inr (11, [.int t_thrown, .ref a_t_now, .ref a_t_kept, .int t_isKept, .ref a_t_text, .int t_length, .ref a_t_passing, .int t_at_r10, .int t_fault_l5, .int t_open_l5, .int t_asked, .int t_byGun, .int t_prizeMost, .ref a_t_order, .ref a_t_times, .int t_listed])), (a_t_text, .inl (cB, 200, .inl t_text))] := hD
        refine lv_bipush (v := (nI 124)) hx hb dX11_tests_16 rfl ?_
        refine lv_icmp_ne (tgt := 53) hx hb dX11_tests_18 (by decide) (fun c12 => ?_) (fun c12 => ?_)
        · have h := zz_f h c12
          exact X5_53 v1_5 t_at_r10 t_fault_l5 t_open_l5 _ _ _ h (hP.sub [1, 0, 2] rfl) (hD.sub [1, 0, 2] rfl rfl) hS (lv_sub hl [0, 1] rfl)
        · have h := zz_t h c12
          refine lv_aload_n hx hb dX11_tests_21 rfl (lv_at hl 1 rfl) ?_
          refine lv_dup hx hb dX11_tests_22 rfl ?_
          refine va_get (D := D) (ci := 11) (C := RX11) (T := TX11) (N := 16) hx hb hts qX11_tests_X11 hown hK hP 1 rfl rfl 7 (by decide) (hts _ kX11_tests_0) (fun _ h9 => h9) rfl dX11_tests_23 ?_
          refine lv_iconst (v := (nI 1)) hx hb dX11_tests_26 rfl ?_
          refine lv_iadd hx hb dX11_tests_27 ?_
          refine va_put (D := D) (ci := 11) (ty := .int) (C := RX11) (T := TX11) (N := 16) hx hb hts qX11_tests_X11 tyX11 tyX11_ok nmX11 hown hK hP hD hS 1 rfl rfl 7 (by decide) (hts _ kX11_tests_0) (fun _ h9 => h9) rfl (by decide +kernel) rfl (by first | rfl | exact zz_fit) (Nat.le_of_ble_eq_true rfl) dX11_tests_28 (fun H locs hP hD hS => ?_)
          have hP : va_P D vwCl [(a_t_now, .inl (cI, 1562, .inl t_now)), (a_t, .inr (11, [.int t_thrown, .ref a_t_now, .ref a_t_kept, .int t_isKept, .ref a_t_text, .int t_length, .ref a_t_passing, .int (t_at_r10 + (nI 1)), .int t_fault_l5, .int t_open_l5, .int t_asked, .int t_byGun, .int t_prizeMost, .ref a_t_order, .ref a_t_times, .int t_listed])), (a_t_text, .inl (cB, 200, .inl t_text))] H := hP
          have hD : va_D A [(a_t_now, .inl (cI, 1562, .inl t_now)), (a_t, .inr (11, [.int t_thrown, .ref a_t_now, .ref a_t_kept, .int t_isKept, .ref a_t_text, .int t_length, .ref a_t_passing, .int (t_at_r10 + (nI 1)), .int t_fault_l5, .int t_open_l5, .int t_asked, .int t_byGun, .int t_prizeMost, .ref a_t_order, .ref a_t_times, .int t_listed])), (a_t_text, .inl (cB, 200, .inl t_text))] := hD
          refine lv_aload_n hx hb dX11_tests_31 rfl (lv_at hl 1 rfl) ?_
          obtain ⟨⟨b13, t_at_r14, t_fault_r15, t_open_r16⟩, e17, h⟩ := zz_b h
          dsimp only at h
          refine zVi (As := []) (rest := []) (C := RX11) (wr := []) [1, 0, 2] [] 0 ⟨hx, hb, hml, hown, hts⟩ (mX11_part_8 l D cB cI cZ a_t a_t_now a_t_kept a_t_text a_t_passing a_t_order a_t_times t_thrown t_isKept t_length (t_at_r10 + (nI 1)) t_fault_l5 t_open_l5 t_asked t_byGun t_prizeMost t_listed t_now t_text H.size N T hT b13 t_at_r14 t_fault_r15 t_open_r16 e17) (cwV 0 hts gX11_tests_X11_part rfl rfl rfl (by decide +kernel) ⟨Nat.le_of_ble_eq_true rfl, Nat.le_of_ble_eq_true rfl⟩) hK hN hZ hP hD hS hA rfl rfl rfl rfl rfl rfl rfl rfl hl.1 rfl (lv_room (Nat.le_of_ble_eq_true rfl)) dX11_tests_32 ⟨Nat.le_of_ble_eq_true rfl, Nat.le_of_ble_eq_true rfl⟩ (fun H locs hP hD hS => ?_)
          have hP : va_P D vwCl [(a_t, .inr (11, [.int t_thrown, .ref a_t_now, .ref a_t_kept, .int t_isKept, .ref a_t_text, .int t_length, .ref a_t_passing, .int t_at_r14, .int t_fault_r15, .int t_open_r16, .int t_asked, .int t_byGun, .int t_prizeMost, .ref a_t_order, .ref a_t_times, .int t_listed])), (a_t_now, .inl (cI, 1562, .inl t_now)), (a_t_text, .inl (cB, 200, .inl t_text))] H := hP
          have hD : va_D A [(a_t, .inr (11, [.int t_thrown, .ref a_t_now, .ref a_t_kept, .int t_isKept, .ref a_t_text, .int t_length, .ref a_t_passing, .int t_at_r14, .int t_fault_r15, .int t_open_r16, .int t_asked, .int t_byGun, .int t_prizeMost, .ref a_t_order, .ref a_t_times, .int t_listed])), (a_t_now, .inl (cI, 1562, .inl t_now)), (a_t_text, .inl (cB, 200, .inl t_text))] := hD
          refine lv_istore_n (lv' := [(2, .int (zb b13)), (1, .int (zb v1_5)), (0, .ref a_t)]) hx hb dX11_tests_35 rfl hl (by decide) rfl (fun ls hl => ?_)
          refine lv_iload_n hx hb dX11_tests_36 rfl (lv_at hl 1 rfl) ?_
          refine lv_if_ne (tgt := 44) hx hb dX11_tests_37 (by decide) (fun c18 => ?_) (fun c18 => ?_)
          · have h := zz_f h c18
            refine lv_iconst (v := (nI 1)) hx hb dX11_tests_44 rfl ?_
            refine lv_goto (tgt := 49) hx hb dX11_tests_45 (by decide) ?_
            refine lv_istore_n (lv' := [(1, .int (nI 1)), (2, .int (zb b13)), (0, .ref a_t)]) hx hb dX11_tests_49 rfl hl (by decide) rfl (fun ls hl => ?_)
            refine lv_goto (tgt := 5) hx hb dX11_tests_50 (by decide) ?_
            exact ih5 true t_at_r14 t_fault_r15 t_open_r16 _ _ _ h (hP.sub [0, 1, 2] rfl) (hD.sub [0, 1, 2] rfl rfl) hS (lv_sub hl [0, 2] rfl)
          · have h := zz_t h c18
            refine lv_iload_n hx hb dX11_tests_40 rfl (lv_at hl 0 rfl) ?_
            refine lv_if_eq (tgt := 48) hx hb dX11_tests_41 (by decide) (fun c19 => ?_) (fun c19 => ?_)
            · have h := zz_t h c19
              refine lv_iconst (v := (nI 0)) hx hb dX11_tests_48 rfl ?_
              refine lv_istore_n (lv' := [(1, .int (nI 0)), (2, .int (zb b13)), (0, .ref a_t)]) hx hb dX11_tests_49 rfl hl (by decide) rfl (fun ls hl => ?_)
              refine lv_goto (tgt := 5) hx hb dX11_tests_50 (by decide) ?_
              exact ih5 false t_at_r14 t_fault_r15 t_open_r16 _ _ _ h (hP.sub [0, 1, 2] rfl) (hD.sub [0, 1, 2] rfl rfl) hS (lv_sub hl [0, 2] rfl)
            · have h := zz_f h c19
              refine lv_iconst (v := (nI 1)) hx hb dX11_tests_44 rfl ?_
              refine lv_goto (tgt := 49) hx hb dX11_tests_45 (by decide) ?_
              refine lv_istore_n (lv' := [(1, .int (nI 1)), (2, .int (zb b13)), (0, .ref a_t)]) hx hb dX11_tests_49 rfl hl (by decide) rfl (fun ls hl => ?_)
              refine lv_goto (tgt := 5) hx hb dX11_tests_50 (by decide) ?_
              exact ih5 true t_at_r14 t_fault_r15 t_open_r16 _ _ _ h (hP.sub [0, 1, 2] rfl) (hD.sub [0, 1, 2] rfl rfl) hS (lv_sub hl [0, 2] rfl)
  exact L5 N b1 t_at_r2 t_fault_r3 t_open_r4 _ _ _ h hP hD hS hl
