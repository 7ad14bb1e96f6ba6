theorem cs_L_109 : hw_CSH RL 109 yL_piece cL_piece 3 (some .int) [(0, 8, 11, 13)] 2 := ⟨⟨by decide +kernel, by decide +kernel, by decide +kernel⟩, (hw_win (w := .codeWith yL_piece cL_piece 3 (some .int) [(0, 8, 11, 13)]) (by decide +kernel) (by decide +kernel)), (hw_win (w := .initialized yL_piece.cls) (by decide +kernel) (by decide +kernel)), (hw_win (w := .methodLink RL 109 yL_piece) (by decide +kernel) (by decide +kernel)), (hw_win (w := .static yL_piece) (by decide +kernel) (by decide +kernel))⟩
theorem cb_X11_piece (own : String) (index : Nat) : hw_CB own index yX11_piece cX11_piece 1 (some .int) 0 := ⟨⟨by decide +kernel, by decide +kernel, by decide +kernel⟩, (hw_win (w := .code yX11_piece cX11_piece 1 (some .int)) (by decide +kernel) (by decide +kernel)), (hw_win (w := .initialized yX11_piece.cls) (by decide +kernel) (by decide +kernel))⟩
theorem cv_L_114 : hw_CV RL 114 yX11_piece cX11_piece 1 (some .int) 0 := ⟨cb_X11_piece _ _, (hw_win (w := .methodLink RL 114 yX11_piece) (by decide +kernel) (by decide +kernel)), (hw_win (w := .instanceMethod yX11_piece) (by decide +kernel) (by decide +kernel)), (hw_win (w := .selects yX11_piece.cls yX11_piece yX11_piece) (by decide +kernel) (by decide +kernel))⟩
theorem cb_X11_thrown (own : String) (index : Nat) : hw_CB own index yX11_thrown cX11_thrown 1 (some .int) 0 := ⟨⟨by decide +kernel, by decide +kernel, by decide +kernel⟩, (hw_win (w := .code yX11_thrown cX11_thrown 1 (some .int)) (by decide +kernel) (by decide +kernel)), (hw_win (w := .initialized yX11_thrown.cls) (by decide +kernel) (by decide +kernel))⟩
theorem cv_L_115 : hw_CV RL 115 yX11_thrown cX11_thrown 1 (some .int) 0 := ⟨cb_X11_thrown _ _, (hw_win (w := .methodLink RL 115 yX11_thrown) (by decide +kernel) (by decide +kernel)), (hw_win (w := .instanceMethod yX11_thrown) (by decide +kernel) (by decide +kernel)), (hw_win (w := .selects yX11_thrown.cls yX11_thrown yX11_thrown) (by decide +kernel) (by decide +kernel))⟩
theorem cs_L_120 : hw_CSH RL 120 yL_layer cL_layer 7 (some .int) [(0, 12, 15, 19), (0, 12, 19, 13)] 5 := ⟨⟨by decide +kernel, by decide +kernel, by decide +kernel⟩, (hw_win (w := .codeWith yL_layer cL_layer 7 (some .int) [(0, 12, 15, 19), (0, 12, 19, 13)]) (by decide +kernel) (by decide +kernel)), (hw_win (w := .initialized yL_layer.cls) (by decide +kernel) (by decide +kernel)), (hw_win (w := .methodLink RL 120 yL_layer) (by decide +kernel) (by decide +kernel)), (hw_win (w := .static yL_layer) (by decide +kernel) (by decide +kernel))⟩
theorem cb_X11_layer (own : String) (index : Nat) : hw_CB own index yX11_layer cX11_layer 5 (some .int) 3 := ⟨⟨by decide +kernel, by decide +kernel, by decide +kernel⟩, (hw_win (w := .code yX11_layer cX11_layer 5 (some .int)) (by decide +kernel) (by decide +kernel)), (hw_win (w := .initialized yX11_layer.cls) (by decide +kernel) (by decide +kernel))⟩
theorem cv_L_123 : hw_CV RL 123 yX11_layer cX11_layer 5 (some .int) 3 := ⟨cb_X11_layer _ _, (hw_win (w := .methodLink RL 123 yX11_layer) (by decide +kernel) (by decide +kernel)), (hw_win (w := .instanceMethod yX11_layer) (by decide +kernel) (by decide +kernel)), (hw_win (w := .selects yX11_layer.cls yX11_layer yX11_layer) (by decide +kernel) (by decide +kernel))⟩
theorem cs_L_124 : hw_CSH RL 124 yL_lay cL_lay 5 (some .int) [(0, 10, 13, 19), (0, 10, 17, 25), (0, 10, 21, 13)] 4 := ⟨⟨by decide +kernel, by decide +kernel, by decide +kernel⟩, (hw_win (w := .codeWith yL_lay cL_lay 5 (some .int) [(0, 10, 13, 19), (0, 10, 17, 25), (0, 10, 21, 13)]) (by decide +kernel) (by decide +kernel)), (hw_win (w := .initialized yL_lay.cls) (by decide +kernel) (by decide +kernel)), (hw_win (w := .methodLink RL 124 yL_lay) (by decide +kernel) (by decide +kernel)), (hw_win (w := .static yL_lay) (by decide +kernel) (by decide +kernel))⟩
theorem cb_X11_lay (own : String) (index : Nat) : hw_CB own index yX11_lay cX11_lay 4 (some .int) 2 := ⟨⟨by decide +kernel, by decide +kernel, by decide +kernel⟩, (hw_win (w := .code yX11_lay cX11_lay 4 (some .int)) (by decide +kernel) (by decide +kernel)), (hw_win (w := .initialized yX11_lay.cls) (by decide +kernel) (by decide +kernel))⟩
theorem cv_L_127 : hw_CV RL 127 yX11_lay cX11_lay 4 (some .int) 2 := ⟨cb_X11_lay _ _, (hw_win (w := .methodLink RL 127 yX11_lay) (by decide +kernel) (by decide +kernel)), (hw_win (w := .instanceMethod yX11_lay) (by decide +kernel) (by decide +kernel)), (hw_win (w := .selects yX11_lay.cls yX11_lay yX11_lay) (by decide +kernel) (by decide +kernel))⟩
theorem cs_L_128 : hw_CSH RL 128 yL_powder cL_powder 5 (some .int) [(0, 10, 13, 25), (0, 10, 17, 13)] 4 := ⟨⟨by decide +kernel, by decide +kernel, by decide +kernel⟩, (hw_win (w := .codeWith yL_powder cL_powder 5 (some .int) [(0, 10, 13, 25), (0, 10, 17, 13)]) (by decide +kernel) (by decide +kernel)), (hw_win (w := .initialized yL_powder.cls) (by decide +kernel) (by decide +kernel)), (hw_win (w := .methodLink RL 128 yL_powder) (by decide +kernel) (by decide +kernel)), (hw_win (w := .static yL_powder) (by decide +kernel) (by decide +kernel))⟩
theorem cb_X11_powder (own : String) (index : Nat) : hw_CB own index yX11_powder cX11_powder 3 (some .int) 2 := ⟨⟨by decide +kernel, by decide +kernel, by decide +kernel⟩, (hw_win (w := .code yX11_powder cX11_powder 3 (some .int)) (by decide +kernel) (by decide +kernel)), (hw_win (w := .initialized yX11_powder.cls) (by decide +kernel) (by decide +kernel))⟩
theorem cv_L_130 : hw_CV RL 130 yX11_powder cX11_powder 3 (some .int) 2 := ⟨cb_X11_powder _ _, (hw_win (w := .methodLink RL 130 yX11_powder) (by decide +kernel) (by decide +kernel)), (hw_win (w := .instanceMethod yX11_powder) (by decide +kernel) (by decide +kernel)), (hw_win (w := .selects yX11_powder.cls yX11_powder yX11_powder) (by decide +kernel) (by decide +kernel))⟩
theorem cs_L_131 : hw_CSH RL 131 yL_blend cL_blend 5 (some .int) [(0, 10, 13, 19), (0, 10, 17, 25), (0, 10, 21, 13)] 4 := ⟨⟨by decide +kernel, by decide +kernel, by decide +kernel⟩, (hw_win (w := .codeWith yL_blend cL_blend 5 (some .int) [(0, 10, 13, 19), (0, 10, 17, 25), (0, 10, 21, 13)]) (by decide +kernel) (by decide +kernel)), (hw_win (w := .initialized yL_blend.cls) (by decide +kernel) (by decide +kernel)), (hw_win (w := .methodLink RL 131 yL_blend) (by decide +kernel) (by decide +kernel)), (hw_win (w := .static yL_blend) (by decide +kernel) (by decide +kernel))⟩
theorem cb_X11_blend (own : String) (index : Nat) : hw_CB own index yX11_blend cX11_blend 5 (some .int) 2 := ⟨⟨by decide +kernel, by decide +kernel, by decide +kernel⟩, (hw_win (w := .code yX11_blend cX11_blend 5 (some .int)) (by decide +kernel) (by decide +kernel)), (hw_win (w := .initialized yX11_blend.cls) (by decide +kernel) (by decide +kernel))⟩
theorem cv_L_133 : hw_CV RL 133 yX11_blend cX11_blend 5 (some .int) 2 := ⟨cb_X11_blend _ _, (hw_win (w := .methodLink RL 133 yX11_blend) (by decide +kernel) (by decide +kernel)), (hw_win (w := .instanceMethod yX11_blend) (by decide +kernel) (by decide +kernel)), (hw_win (w := .selects yX11_blend.cls yX11_blend yX11_blend) (by decide +kernel) (by decide +kernel))⟩
theorem cs_L_134 : hw_CSH RL 134 yL_load cL_load 5 (some .int) [(0, 10, 13, 19), (0, 10, 17, 13)] 4 := ⟨⟨by decide +kernel, by decide +kernel, by decide +kernel⟩, (hw_win (w := .codeWith yL_load cL_load 5 (some .int) [(0, 10, 13, 19), (0, 10, 17, 13)]) (by decide +kernel) (by decide +kernel)), (hw_win (w := .initialized yL_load.cls) (by decide +kernel) (by decide +kernel)), (hw_win (w := .methodLink RL 134 yL_load) (by decide +kernel) (by decide +kernel)), (hw_win (w := .static yL_load) (by decide +kernel) (by decide +kernel))⟩
theorem cb_X11_load (own : String) (index : Nat) : hw_CB own index yX11_load cX11_load 5 (some .int) 2 := ⟨⟨by decide +kernel, by decide +kernel, by decide +kernel⟩, (hw_win (w := .code yX11_load cX11_load 5 (some .int)) (by decide +kernel) (by decide +kernel)), (hw_win (w := .initialized yX11_load.cls) (by decide +kernel) (by decide +kernel))⟩
theorem cv_L_136 : hw_CV RL 136 yX11_load cX11_load 5 (some .int) 2 := ⟨cb_X11_load _ _, (hw_win (w := .methodLink RL 136 yX11_load) (by decide +kernel) (by decide +kernel)), (hw_win (w := .instanceMethod yX11_load) (by decide +kernel) (by decide +kernel)), (hw_win (w := .selects yX11_load.cls yX11_load yX11_load) (by decide +kernel) (by decide +kernel))⟩
theorem cs_L_137 : hw_CSH RL 137 yL_unload cL_unload 4 (some .int) [(0, 9, 12, 19), (0, 9, 15, 13)] 3 := ⟨⟨by decide +kernel, by decide +kernel, by decide +kernel⟩, (hw_win (w := .codeWith yL_unload cL_unload 4 (some .int) [(0, 9, 12, 19), (0, 9, 15, 13)]) (by decide +kernel) (by decide +kernel)), (hw_win (w := .initialized yL_unload.cls) (by decide +kernel) (by decide +kernel)), (hw_win (w := .methodLink RL 137 yL_unload) (by decide +kernel) (by decide +kernel)), (hw_win (w := .static yL_unload) (by decide +kernel) (by decide +kernel))⟩
theorem cb_X11_unload (own : String) (index : Nat) : hw_CB own index yX11_unload cX11_unload 3 (some .int) 1 := ⟨⟨by decide +kernel, by decide +kernel, by decide +kernel⟩, (hw_win (w := .code yX11_unload cX11_unload 3 (some .int)) (by decide +kernel) (by decide +kernel)), (hw_win (w := .initialized yX11_unload.cls) (by decide +kernel) (by decide +kernel))⟩
theorem cv_L_140 : hw_CV RL 140 yX11_unload cX11_unload 3 (some .int) 1 := ⟨cb_X11_unload _ _, (hw_win (w := .methodLink RL 140 yX11_unload) (by decide +kernel) (by decide +kernel)), (hw_win (w := .instanceMethod yX11_unload) (by decide +kernel) (by decide +kernel)), (hw_win (w := .selects yX11_unload.cls yX11_unload yX11_unload) (by decide +kernel) (by decide +kernel))⟩
theorem cs_L_141 : hw_CSH RL 141 yL_clean cL_clean 4 (some .int) [(0, 9, 12, 19)] 3 := ⟨⟨by decide +kernel, by decide +kernel, by decide +kernel⟩, (hw_win (w := .codeWith yL_clean cL_clean 4 (some .int) [(0, 9, 12, 19)]) (by decide +kernel) (by decide +kernel)), (hw_win (w := .initialized yL_clean.cls) (by decide +kernel) (by decide +kernel)), (hw_win (w := .methodLink RL 141 yL_clean) (by decide +kernel) (by decide +kernel)), (hw_win (w := .static yL_clean) (by decide +kernel) (by decide +kernel))⟩
theorem cb_X11_clean (own : String) (index : Nat) : hw_CB own index yX11_clean cX11_clean 4 (some .int) 1 := ⟨⟨by decide +kernel, by decide +kernel, by decide +kernel⟩, (hw_win (w := .code yX11_clean cX11_clean 4 (some .int)) (by decide +kernel) (by decide +kernel)), (hw_win (w := .initialized yX11_clean.cls) (by decide +kernel) (by decide +kernel))⟩
theorem cv_L_143 : hw_CV RL 143 yX11_clean cX11_clean 4 (some .int) 1 := ⟨cb_X11_clean _ _, (hw_win (w := .methodLink RL 143 yX11_clean) (by decide +kernel) (by decide +kernel)), (hw_win (w := .instanceMethod yX11_clean) (by decide +kernel) (by decide +kernel)), (hw_win (w := .selects yX11_clean.cls yX11_clean yX11_clean) (by decide +kernel) (by decide +kernel))⟩
theorem cs_L_144 : hw_CSH RL 144 yL_start cL_start 7 (some .int) [(0, 14, 17, 19), (0, 14, 21, 25), (0, 14, 25, 13)] 6 := ⟨⟨by decide +kernel, by decide +kernel, by decide +kernel⟩, (hw_win (w := .codeWith yL_start cL_start 7 (some .int) [(0, 14, 17, 19), (0, 14, 21, 25), (0, 14, 25, 13)]) (by decide +kernel) (by decide +kernel)), (hw_win (w := .initialized yL_start.cls) (by decide +kernel) (by decide +kernel)), (hw_win (w := .methodLink RL 144 yL_start) (by decide +kernel) (by decide +kernel)), (hw_win (w := .static yL_start) (by decide +kernel) (by decide +kernel))⟩
theorem cb_X11_start (own : String) (index : Nat) : hw_CB own index yX11_start cX11_start 7 (some .int) 4 := ⟨⟨by decide +kernel, by decide +kernel, by decide +kernel⟩, (hw_win (w := .code yX11_start cX11_start 7 (some .int)) (by decide +kernel) (by decide +kernel)), (hw_win (w := .initialized yX11_start.cls) (by decide +kernel) (by decide +kernel))⟩
theorem cv_L_147 : hw_CV RL 147 yX11_start cX11_start 7 (some .int) 4 := ⟨cb_X11_start _ _, (hw_win (w := .methodLink RL 147 yX11_start) (by decide +kernel) (by decide +kernel)), (hw_win (w := .instanceMethod yX11_start) (by decide +kernel) (by decide +kernel)), (hw_win (w := .selects yX11_start.cls yX11_start yX11_start) (by decide +kernel) (by decide +kernel))⟩
theorem cs_L_148 : hw_CSH RL 148 yL_grow cL_grow 5 (some .int) [(0, 10, 13, 19), (0, 10, 17, 25), (0, 10, 21, 13)] 4 := ⟨⟨by decide +kernel, by decide +kernel, by decide +kernel⟩, (hw_win (w := .codeWith yL_grow cL_grow 5 (some .int) [(0, 10, 13, 19), (0, 10, 17, 25), (0, 10, 21, 13)]) (by decide +kernel) (by decide +kernel)), (hw_win (w := .initialized yL_grow.cls) (by decide +kernel) (by decide +kernel)), (hw_win (w := .methodLink RL 148 yL_grow) (by decide +kernel) (by decide +kernel)), (hw_win (w := .static yL_grow) (by decide +kernel) (by decide +kernel))⟩
theorem cb_X11_grow (own : String) (index : Nat) : hw_CB own index yX11_grow cX11_grow 9 (some .int) 2 := ⟨⟨by decide +kernel, by decide +kernel, by decide +kernel⟩, (hw_win (w := .code yX11_grow cX11_grow 9 (some .int)) (by decide +kernel) (by decide +kernel)), (hw_win (w := .initialized yX11_grow.cls) (by decide +kernel) (by decide +kernel))⟩
theorem cv_L_150 : hw_CV RL 150 yX11_grow cX11_grow 9 (some .int) 2 := ⟨cb_X11_grow _ _, (hw_win (w := .methodLink RL 150 yX11_grow) (by decide +kernel) (by decide +kernel)), (hw_win (w := .instanceMethod yX11_grow) (by decide +kernel) (by decide +kernel)), (hw_win (w := .selects yX11_grow.cls yX11_grow yX11_grow) (by decide +kernel) (by decide +kernel))⟩
theorem cs_L_151 : hw_CSH RL 151 yL_stop cL_stop 4 (some .int) [(0, 9, 12, 19), (0, 9, 15, 13)] 3 := ⟨⟨by decide +kernel, by decide +kernel, by decide +kernel⟩, (hw_win (w := .codeWith yL_stop cL_stop 4 (some .int) [(0, 9, 12, 19), (0, 9, 15, 13)]) (by decide +kernel) (by decide +kernel)), (hw_win (w := .initialized yL_stop.cls) (by decide +kernel) (by decide +kernel)), (hw_win (w := .methodLink RL 151 yL_stop) (by decide +kernel) (by decide +kernel)), (hw_win (w := .static yL_stop) (by decide +kernel) (by decide +kernel))⟩
theorem cb_X11_stop (own : String) (index : Nat) : hw_CB own index yX11_stop cX11_stop 4 (some .int) 1 := ⟨⟨by decide +kernel, by decide +kernel, by decide +kernel⟩, (hw_win (w := .code yX11_stop cX11_stop 4 (some .int)) (by decide +kernel) (by decide +kernel)), (hw_win (w := .initialized yX11_stop.cls) (by decide +kernel) (by decide +kernel))⟩
theorem cv_L_153 : hw_CV RL 153 yX11_stop cX11_stop 4 (some .int) 1 := ⟨cb_X11_stop _ _, (hw_win (w := .methodLink RL 153 yX11_stop) (by decide +kernel) (by decide +kernel)), (hw_win (w := .instanceMethod yX11_stop) (by decide +kernel) (by decide +kernel)), (hw_win (w := .selects yX11_stop.cls yX11_stop yX11_stop) (by decide +kernel) (by decide +kernel))⟩
theorem cs_L_154 : hw_CSH RL 154 yL_relieve cL_relieve 4 (some .int) [(0, 9, 12, 19), (0, 9, 15, 13)] 3 := ⟨⟨by decide +kernel, by decide +kernel, by decide +kernel⟩, (hw_win (w := .codeWith yL_relieve cL_relieve 4 (some .int) [(0, 9, 12, 19), (0, 9, 15, 13)]) (by decide +kernel) (by decide +kernel)), (hw_win (w := .initialized yL_relieve.cls) (by decide +kernel) (by decide +kernel)), (hw_win (w := .methodLink RL 154 yL_relieve) (by decide +kernel) (by decide +kernel)), (hw_win (w := .static yL_relieve) (by decide +kernel) (by decide +kernel))⟩
theorem cb_X11_relieve (own : String) (index : Nat) : hw_CB own index yX11_relieve cX11_relieve 2 (some .int) 1 := ⟨⟨by decide +kernel, by decide +kernel, by decide +kernel⟩, (hw_win (w := .code yX11_relieve cX11_relieve 2 (some .int)) (by decide +kernel) (by decide +kernel)), (hw_win (w := .initialized yX11_relieve.cls) (by decide +kernel) (by decide +kernel))⟩
theorem cv_L_156 : hw_CV RL 156 yX11_relieve cX11_relieve 2 (some .int) 1 := ⟨cb_X11_relieve _ _, (hw_win (w := .methodLink RL 156 yX11_relieve) (by decide +kernel) (by decide +kernel)), (hw_win (w := .instanceMethod yX11_relieve) (by decide +kernel) (by decide +kernel)), (hw_win (w := .selects yX11_relieve.cls yX11_relieve yX11_relieve) (by decide +kernel) (by decide +kernel))⟩
theorem cs_L_157 : hw_CSH RL 157 yL_saw cL_saw 4 (some .int) [(0, 16, 19, 19), (0, 16, 22, 13)] 3 := ⟨⟨by decide +kernel, by decide +kernel, by decide +kernel⟩, (hw_win (w := .codeWith yL_saw cL_saw 4 (some .int) [(0, 16, 19, 19), (0, 16, 22, 13)]) (by decide +kernel) (by decide +kernel)), (hw_win (w := .initialized yL_saw.cls) (by decide +kernel) (by decide +kernel)), (hw_win (w := .methodLink RL 157 yL_saw) (by decide +kernel) (by decide +kernel)), (hw_win (w := .static yL_saw) (by decide +kernel) (by decide +kernel))⟩
theorem cb_X11_saw (own : String) (index : Nat) : hw_CB own index yX11_saw cX11_saw 3 (some .boolean) 1 := ⟨⟨by decide +kernel, by decide +kernel, by decide +kernel⟩, (hw_win (w := .code yX11_saw cX11_saw 3 (some .boolean)) (by decide +kernel) (by decide +kernel)), (hw_win (w := .initialized yX11_saw.cls) (by decide +kernel) (by decide +kernel))⟩
theorem cv_L_159 : hw_CV RL 159 yX11_saw cX11_saw 3 (some .boolean) 1 := ⟨cb_X11_saw _ _, (hw_win (w := .methodLink RL 159 yX11_saw) (by decide +kernel) (by decide +kernel)), (hw_win (w := .instanceMethod yX11_saw) (by decide +kernel) (by decide +kernel)), (hw_win (w := .selects yX11_saw.cls yX11_saw yX11_saw) (by decide +kernel) (by decide +kernel))⟩
theorem cs_L_160 : hw_CSH RL 160 yL_press cL_press 4 (some .int) [(0, 9, 12, 19), (0, 9, 15, 13)] 3 := ⟨⟨by decide +kernel, by decide +kernel, by decide +kernel⟩, (hw_win (w := .codeWith yL_press cL_press 4 (some .int) [(0, 9, 12, 19), (0, 9, 15, 13)]) (by decide +kernel) (by decide +kernel)), (hw_win (w := .initialized yL_press.cls) (by decide +kernel) (by decide +kernel)), (hw_win (w := .methodLink RL 160 yL_press) (by decide +kernel) (by decide +kernel)), (hw_win (w := .static yL_press) (by decide +kernel) (by decide +kernel))⟩
theorem cb_X11_press (own : String) (index : Nat) : hw_CB own index yX11_press cX11_press 3 (some .int) 1 := ⟨⟨by decide +kernel, by decide +kernel, by decide +kernel⟩, (hw_win (w := .code yX11_press cX11_press 3 (some .int)) (by decide +kernel) (by decide +kernel)), (hw_win (w := .initialized yX11_press.cls) (by decide +kernel) (by decide +kernel))⟩
theorem cv_L_162 : hw_CV RL 162 yX11_press cX11_press 3 (some .int) 1 := ⟨cb_X11_press _ _, (hw_win (w := .methodLink RL 162 yX11_press) (by decide +kernel) (by decide +kernel)), (hw_win (w := .instanceMethod yX11_press) (by decide +kernel) (by decide +kernel)), (hw_win (w := .selects yX11_press.cls yX11_press yX11_press) (by decide +kernel) (by decide +kernel))⟩
theorem cs_L_163 : hw_CSH RL 163 yL_prove cL_prove 4 (some .int) [(0, 16, 19, 19), (0, 16, 22, 13)] 3 := ⟨⟨by decide +kernel, by decide +kernel, by decide +kernel⟩, (hw_win (w := .codeWith yL_prove cL_prove 4 (some .int) [(0, 16, 19, 19), (0, 16, 22, 13)]) (by decide +kernel) (by decide +kernel)), (hw_win (w := .initialized yL_prove.cls) (by decide +kernel) (by decide +kernel)), (hw_win (w := .methodLink RL 163 yL_prove) (by decide +kernel) (by decide +kernel)), (hw_win (w := .static yL_prove) (by decide +kernel) (by decide +kernel))⟩
theorem cb_X11_prove (own : String) (index : Nat) : hw_CB own index yX11_prove cX11_prove 5 (some .boolean) 1 := ⟨⟨by decide +kernel, by decide +kernel, by decide +kernel⟩, (hw_win (w := .code yX11_prove cX11_prove 5 (some .boolean)) (by decide +kernel) (by decide +kernel)), (hw_win (w := .initialized yX11_prove.cls) (by decide +kernel) (by decide +kernel))⟩
theorem cv_L_165 : hw_CV RL 165 yX11_prove cX11_prove 5 (some .boolean) 1 := ⟨cb_X11_prove _ _, (hw_win (w := .methodLink RL 165 yX11_prove) (by decide +kernel) (by decide +kernel)), (hw_win (w := .instanceMethod yX11_prove) (by decide +kernel) (by decide +kernel)), (hw_win (w := .selects yX11_prove.cls yX11_prove yX11_prove) (by decide +kernel) (by decide +kernel))⟩
theorem cs_L_166 : hw_CSH RL 166 yL_accept cL_accept 4 (some .int) [(0, 9, 12, 19), (0, 9, 15, 13)] 3 := ⟨⟨by decide +kernel, by decide +kernel, by decide +kernel⟩, (hw_win (w := .codeWith yL_accept cL_accept 4 (some .int) [(0, 9, 12, 19), (0, 9, 15, 13)]) (by decide +kernel) (by decide +kernel)), (hw_win (w := .initialized yL_accept.cls) (by decide +kernel) (by decide +kernel)), (hw_win (w := .methodLink RL 166 yL_accept) (by decide +kernel) (by decide +kernel)), (hw_win (w := .static yL_accept) (by decide +kernel) (by decide +kernel))⟩
theorem cb_X11_accept (own : String) (index : Nat) : hw_CB own index yX11_accept cX11_accept 3 (some .int) 1 := ⟨⟨by decide +kernel, by decide +kernel, by decide +kernel⟩, (hw_win (w := .code yX11_accept cX11_accept 3 (some .int)) (by decide +kernel) (by decide +kernel)), (hw_win (w := .initialized yX11_accept.cls) (by decide +kernel) (by decide +kernel))⟩
theorem cv_L_168 : hw_CV RL 168 yX11_accept cX11_accept 3 (some .int) 1 := ⟨cb_X11_accept _ _, (hw_win (w := .methodLink RL 168 yX11_accept) (by decide +kernel) (by decide +kernel)), (hw_win (w := .instanceMethod yX11_accept) (by decide +kernel) (by decide +kernel)), (hw_win (w := .selects yX11_accept.cls yX11_accept yX11_accept) (by decide +kernel) (by decide +kernel))⟩
theorem cs_L_169 : hw_CSH RL 169 yL_ofPiece cL_ofPiece 5 (some .int) [(0, 10, 13, 19), (0, 10, 17, 25)] 4 := ⟨⟨by decide +kernel, by decide +kernel, by decide +kernel⟩, (hw_win (w := .codeWith yL_ofPiece cL_ofPiece 5 (some .int) [(0, 10, 13, 19), (0, 10, 17, 25)]) (by decide +kernel) (by decide +kernel)), (hw_win (w := .initialized yL_ofPiece.cls) (by decide +kernel) (by decide +kernel)), (hw_win (w := .methodLink RL 169 yL_ofPiece) (by decide +kernel) (by decide +kernel)), (hw_win (w := .static yL_ofPiece) (by decide +kernel) (by decide +kernel))⟩
theorem cb_X11_ofPiece (own : String) (index : Nat) : hw_CB own index yX11_ofPiece cX11_ofPiece 3 (some .int) 2 := ⟨⟨by decide +kernel, by decide +kernel, by decide +kernel⟩, (hw_win (w := .code yX11_ofPiece cX11_ofPiece 3 (some .int)) (by decide +kernel) (by decide +kernel)), (hw_win (w := .initialized yX11_ofPiece.cls) (by decide +kernel) (by decide +kernel))⟩
theorem cv_L_171 : hw_CV RL 171 yX11_ofPiece cX11_ofPiece 3 (some .int) 2 := ⟨cb_X11_ofPiece _ _, (hw_win (w := .methodLink RL 171 yX11_ofPiece) (by decide +kernel) (by decide +kernel)), (hw_win (w := .instanceMethod yX11_ofPiece) (by decide +kernel) (by decide +kernel)), (hw_win (w := .selects yX11_ofPiece.cls yX11_ofPiece yX11_ofPiece) (by decide +kernel) (by decide +kernel))⟩
theorem cs_L_172 : hw_CSH RL 172 yL_ofLayer cL_ofLayer 6 (some .int) [(0, 11, 14, 19), (0, 11, 18, 25)] 5 := ⟨⟨by decide +kernel, by decide +kernel, by decide +kernel⟩, (hw_win (w := .codeWith yL_ofLayer cL_ofLayer 6 (some .int) [(0, 11, 14, 19), (0, 11, 18, 25)]) (by decide +kernel) (by decide +kernel)), (hw_win (w := .initialized yL_ofLayer.cls) (by decide +kernel) (by decide +kernel)), (hw_win (w := .methodLink RL 172 yL_ofLayer) (by decide +kernel) (by decide +kernel)), (hw_win (w := .static yL_ofLayer) (by decide +kernel) (by decide +kernel))⟩
theorem cb_X11_ofLayer (own : String) (index : Nat) : hw_CB own index yX11_ofLayer cX11_ofLayer 4 (some .long) 3 := ⟨⟨by decide +kernel, by decide +kernel, by decide +kernel⟩, (hw_win (w := .code yX11_ofLayer cX11_ofLayer 4 (some .long)) (by decide +kernel) (by decide +kernel)), (hw_win (w := .initialized yX11_ofLayer.cls) (by decide +kernel) (by decide +kernel))⟩
theorem cv_L_175 : hw_CV RL 175 yX11_ofLayer cX11_ofLayer 4 (some .long) 3 := ⟨cb_X11_ofLayer _ _, (hw_win (w := .methodLink RL 175 yX11_ofLayer) (by decide +kernel) (by decide +kernel)), (hw_win (w := .instanceMethod yX11_ofLayer) (by decide +kernel) (by decide +kernel)), (hw_win (w := .selects yX11_ofLayer.cls yX11_ofLayer yX11_ofLayer) (by decide +kernel) (by decide +kernel))⟩
theorem cs_L_176 : hw_CSH RL 176 yL_ofPowder cL_ofPowder 5 (some .int) [(0, 10, 13, 19), (0, 10, 17, 25)] 4 := ⟨⟨by decide +kernel, by decide +kernel, by decide +kernel⟩, (hw_win (w := .codeWith yL_ofPowder cL_ofPowder 5 (some .int) [(0, 10, 13, 19), (0, 10, 17, 25)]) (by decide +kernel) (by decide +kernel)), (hw_win (w := .initialized yL_ofPowder.cls) (by decide +kernel) (by decide +kernel)), (hw_win (w := .methodLink RL 176 yL_ofPowder) (by decide +kernel) (by decide +kernel)), (hw_win (w := .static yL_ofPowder) (by decide +kernel) (by decide +kernel))⟩
theorem cb_X11_ofPowder (own : String) (index : Nat) : hw_CB own index yX11_ofPowder cX11_ofPowder 3 (some .int) 2 := ⟨⟨by decide +kernel, by decide +kernel, by decide +kernel⟩, (hw_win (w := .code yX11_ofPowder cX11_ofPowder 3 (some .int)) (by decide +kernel) (by decide +kernel)), (hw_win (w := .initialized yX11_ofPowder.cls) (by decide +kernel) (by decide +kernel))⟩
theorem cv_L_178 : hw_CV RL 178 yX11_ofPowder cX11_ofPowder 3 (some .int) 2 := ⟨cb_X11_ofPowder _ _, (hw_win (w := .methodLink RL 178 yX11_ofPowder) (by decide +kernel) (by decide +kernel)), (hw_win (w := .instanceMethod yX11_ofPowder) (by decide +kernel) (by decide +kernel)), (hw_win (w := .selects yX11_ofPowder.cls yX11_ofPowder yX11_ofPowder) (by decide +kernel) (by decide +kernel))⟩
theorem cs_L_179 : hw_CSH RL 179 yL_ofMachine cL_ofMachine 5 (some .int) [(0, 10, 13, 19), (0, 10, 17, 25)] 4 := ⟨⟨by decide +kernel, by decide +kernel, by decide +kernel⟩, (hw_win (w := .codeWith yL_ofMachine cL_ofMachine 5 (some .int) [(0, 10, 13, 19), (0, 10, 17, 25)]) (by decide +kernel) (by decide +kernel)), (hw_win (w := .initialized yL_ofMachine.cls) (by decide +kernel) (by decide +kernel)), (hw_win (w := .methodLink RL 179 yL_ofMachine) (by decide +kernel) (by decide +kernel)), (hw_win (w := .static yL_ofMachine) (by decide +kernel) (by decide +kernel))⟩
theorem cb_X11_ofMachine (own : String) (index : Nat) : hw_CB own index yX11_ofMachine cX11_ofMachine 3 (some .int) 2 := ⟨⟨by decide +kernel, by decide +kernel, by decide +kernel⟩, (hw_win (w := .code yX11_ofMachine cX11_ofMachine 3 (some .int)) (by decide +kernel) (by decide +kernel)), (hw_win (w := .initialized yX11_ofMachine.cls) (by decide +kernel) (by decide +kernel))⟩
theorem cv_L_181 : hw_CV RL 181 yX11_ofMachine cX11_ofMachine 3 (some .int) 2 := ⟨cb_X11_ofMachine _ _, (hw_win (w := .methodLink RL 181 yX11_ofMachine) (by decide +kernel) (by decide +kernel)), (hw_win (w := .instanceMethod yX11_ofMachine) (by decide +kernel) (by decide +kernel)), (hw_win (w := .selects yX11_ofMachine.cls yX11_ofMachine yX11_ofMachine) (by decide +kernel) (by decide +kernel))⟩
theorem cs_L_182 : hw_CSH RL 182 yL_warm cL_warm 6 (some .int) [(0, 11, 14, 19)] 5 := ⟨⟨by decide +kernel, by decide +kernel, by decide +kernel⟩, (hw_win (w := .codeWith yL_warm cL_warm 6 (some .int) [(0, 11, 14, 19)]) (by decide +kernel) (by decide +kernel)), (hw_win (w := .initialized yL_warm.cls) (by decide +kernel) (by decide +kernel)), (hw_win (w := .methodLink RL 182 yL_warm) (by decide +kernel) (by decide +kernel)), (hw_win (w := .static yL_warm) (by decide +kernel) (by decide +kernel))⟩
theorem cb_X11_warm (own : String) (index : Nat) : hw_CB own index yX11_warm cX11_warm 4 (some .double) 3 := ⟨⟨by decide +kernel, by decide +kernel, by decide +kernel⟩, (hw_win (w := .code yX11_warm cX11_warm 4 (some .double)) (by decide +kernel) (by decide +kernel)), (hw_win (w := .initialized yX11_warm.cls) (by decide +kernel) (by decide +kernel))⟩
theorem cv_L_185 : hw_CV RL 185 yX11_warm cX11_warm 4 (some .double) 3 := ⟨cb_X11_warm _ _, (hw_win (w := .methodLink RL 185 yX11_warm) (by decide +kernel) (by decide +kernel)), (hw_win (w := .instanceMethod yX11_warm) (by decide +kernel) (by decide +kernel)), (hw_win (w := .selects yX11_warm.cls yX11_warm yX11_warm) (by decide +kernel) (by decide +kernel))⟩
theorem cs_L_186 : hw_CSH RL 186 yL_measure cL_measure 5 (some .int) [(0, 9, 12, 19), (0, 9, 16, 25)] 4 := ⟨⟨by decide +kernel, by decide +kernel, by decide +kernel⟩, (hw_win (w := .codeWith yL_measure cL_measure 5 (some .int) [(0, 9, 12, 19), (0, 9, 16, 25)]) (by decide +kernel) (by decide +kernel)), (hw_win (w := .initialized yL_measure.cls) (by decide +kernel) (by decide +kernel)), (hw_win (w := .methodLink RL 186 yL_measure) (by decide +kernel) (by decide +kernel)), (hw_win (w := .static yL_measure) (by decide +kernel) (by decide +kernel))⟩
theorem cb_X11_measure (own : String) (index : Nat) : hw_CB own index yX11_measure cX11_measure 3 (some .double) 2 := ⟨⟨by decide +kernel, by decide +kernel, by decide +kernel⟩, (hw_win (w := .code yX11_measure cX11_measure 3 (some .double)) (by decide +kernel) (by decide +kernel)), (hw_win (w := .initialized yX11_measure.cls) (by decide +kernel) (by decide +kernel))⟩
theorem cv_L_189 : hw_CV RL 189 yX11_measure cX11_measure 3 (some .double) 2 := ⟨cb_X11_measure _ _, (hw_win (w := .methodLink RL 189 yX11_measure) (by decide +kernel) (by decide +kernel)), (hw_win (w := .instanceMethod yX11_measure) (by decide +kernel) (by decide +kernel)), (hw_win (w := .selects yX11_measure.cls yX11_measure yX11_measure) (by decide +kernel) (by decide +kernel))⟩
theorem cs_L_190 : hw_CSH RL 190 yL_recall cL_recall 4 (some .int) [(0, 9, 12, 19)] 3 := ⟨⟨by decide +kernel, by decide +kernel, by decide +kernel⟩, (hw_win (w := .codeWith yL_recall cL_recall 4 (some .int) [(0, 9, 12, 19)]) (by decide +kernel) (by decide +kernel)), (hw_win (w := .initialized yL_recall.cls) (by decide +kernel) (by decide +kernel)), (hw_win (w := .methodLink RL 190 yL_recall) (by decide +kernel) (by decide +kernel)), (hw_win (w := .static yL_recall) (by decide +kernel) (by decide +kernel))⟩
theorem cb_X11_recall (own : String) (index : Nat) : hw_CB own index yX11_recall cX11_recall 2 (some .int) 1 := ⟨⟨by decide +kernel, by decide +kernel, by decide +kernel⟩, (hw_win (w := .code yX11_recall cX11_recall 2 (some .int)) (by decide +kernel) (by decide +kernel)), (hw_win (w := .initialized yX11_recall.cls) (by decide +kernel) (by decide +kernel))⟩
theorem cv_L_192 : hw_CV RL 192 yX11_recall cX11_recall 2 (some .int) 1 := ⟨cb_X11_recall _ _, (hw_win (w := .methodLink RL 192 yX11_recall) (by decide +kernel) (by decide +kernel)), (hw_win (w := .instanceMethod yX11_recall) (by decide +kernel) (by decide +kernel)), (hw_win (w := .selects yX11_recall.cls yX11_recall yX11_recall) (by decide +kernel) (by decide +kernel))⟩
theorem cs_L_193 : hw_CSH RL 193 yL_many cL_many 4 (some .int) [(0, 9, 12, 25)] 3 := ⟨⟨by decide +kernel, by decide +kernel, by decide +kernel⟩, (hw_win (w := .codeWith yL_many cL_many 4 (some .int) [(0, 9, 12, 25)]) (by decide +kernel) (by decide +kernel)), (hw_win (w := .initialized yL_many.cls) (by decide +kernel) (by decide +kernel)), (hw_win (w := .methodLink RL 193 yL_many) (by decide +kernel) (by decide +kernel)), (hw_win (w := .static yL_many) (by decide +kernel) (by decide +kernel))⟩
theorem cb_X11_many (own : String) (index : Nat) : hw_CB own index yX11_many cX11_many 2 (some .int) 1 := ⟨⟨by decide +kernel, by decide +kernel, by decide +kernel⟩, (hw_win (w := .code yX11_many cX11_many 2 (some .int)) (by decide +kernel) (by decide +kernel)), (hw_win (w := .initialized yX11_many.cls) (by decide +kernel) (by decide +kernel))⟩
theorem cv_L_195 : hw_CV RL 195 yX11_many cX11_many 2 (some .int) 1 := ⟨cb_X11_many _ _, (hw_win (w := .methodLink RL 195 yX11_many) (by decide +kernel) (by decide +kernel)), (hw_win (w := .instanceMethod yX11_many) (by decide +kernel) (by decide +kernel)), (hw_win (w := .selects yX11_many.cls yX11_many yX11_many) (by decide +kernel) (by decide +kernel))⟩
theorem cs_L_196 : hw_CSH RL 196 yL_wouldHold cL_wouldHold 5 (some .int) [(0, 10, 13, 19), (0, 10, 17, 25)] 4 := ⟨⟨by decide +kernel, by decide +kernel, by decide +kernel⟩, (hw_win (w := .codeWith yL_wouldHold cL_wouldHold 5 (some .int) [(0, 10, 13, 19), (0, 10, 17, 25)]) (by decide +kernel) (by decide +kernel)), (hw_win (w := .initialized yL_wouldHold.cls) (by decide +kernel) (by decide +kernel)), (hw_win (w := .methodLink RL 196 yL_wouldHold) (by decide +kernel) (by decide +kernel)), (hw_win (w := .static yL_wouldHold) (by decide +kernel) (by decide +kernel))⟩
theorem cb_X11_wouldHold (own : String) (index : Nat) : hw_CB own index yX11_wouldHold cX11_wouldHold 3 (some .int) 2 := ⟨⟨by decide +kernel, by decide +kernel, by decide +kernel⟩, (hw_win (w := .code yX11_wouldHold cX11_wouldHold 3 (some .int)) (by decide +kernel) (by decide +kernel)), (hw_win (w := .initialized yX11_wouldHold.cls) (by decide +kernel) (by decide +kernel))⟩
theorem cv_L_198 : hw_CV RL 198 yX11_wouldHold cX11_wouldHold 3 (some .int) 2 := ⟨cb_X11_wouldHold _ _, (hw_win (w := .methodLink RL 198 yX11_wouldHold) (by decide +kernel) (by decide +kernel)), (hw_win (w := .instanceMethod yX11_wouldHold) (by decide +kernel) (by decide +kernel)), (hw_win (w := .selects yX11_wouldHold.cls yX11_wouldHold yX11_wouldHold) (by decide +kernel) (by decide +kernel))⟩
theorem cs_L_199 : hw_CSH RL 199 yL_bestWay cL_bestWay 4 (some .int) [(0, 9, 12, 19)] 3 := ⟨⟨by decide +kernel, by decide +kernel, by decide +kernel⟩, (hw_win (w := .codeWith yL_bestWay cL_bestWay 4 (some .int) [(0, 9, 12, 19)]) (by decide +kernel) (by decide +kernel)), (hw_win (w := .initialized yL_bestWay.cls) (by decide +kernel) (by decide +kernel)), (hw_win (w := .methodLink RL 199 yL_bestWay) (by decide +kernel) (by decide +kernel)), (hw_win (w := .static yL_bestWay) (by decide +kernel) (by decide +kernel))⟩
theorem cb_X11_bestWay (own : String) (index : Nat) : hw_CB own index yX11_bestWay cX11_bestWay 2 (some .int) 1 := ⟨⟨by decide +kernel, by decide +kernel, by decide +kernel⟩, (hw_win (w := .code yX11_bestWay cX11_bestWay 2 (some .int)) (by decide +kernel) (by decide +kernel)), (hw_win (w := .initialized yX11_bestWay.cls) (by decide +kernel) (by decide +kernel))⟩
theorem cv_L_201 : hw_CV RL 201 yX11_bestWay cX11_bestWay 2 (some .int) 1 := ⟨cb_X11_bestWay _ _, (hw_win (w := .methodLink RL 201 yX11_bestWay) (by decide +kernel) (by decide +kernel)), (hw_win (w := .instanceMethod yX11_bestWay) (by decide +kernel) (by decide +kernel)), (hw_win (w := .selects yX11_bestWay.cls yX11_bestWay yX11_bestWay) (by decide +kernel) (by decide +kernel))⟩
theorem cs_L_202 : hw_CSH RL 202 yL_bestSpeed cL_bestSpeed 5 (some .int) [(0, 10, 13, 19), (0, 10, 17, 25)] 4 := ⟨⟨by decide +kernel, by decide +kernel, by decide +kernel⟩, (hw_win (w := .codeWith yL_bestSpeed cL_bestSpeed 5 (some .int) [(0, 10, 13, 19), (0, 10, 17, 25)]) (by decide +kernel) (by decide +kernel)), (hw_win (w := .initialized yL_bestSpeed.cls) (by decide +kernel) (by decide +kernel)), (hw_win (w := .methodLink RL 202 yL_bestSpeed) (by decide +kernel) (by decide +kernel)), (hw_win (w := .static yL_bestSpeed) (by decide +kernel) (by decide +kernel))⟩
theorem cb_X11_bestSpeed (own : String) (index : Nat) : hw_CB own index yX11_bestSpeed cX11_bestSpeed 3 (some .int) 2 := ⟨⟨by decide +kernel, by decide +kernel, by decide +kernel⟩, (hw_win (w := .code yX11_bestSpeed cX11_bestSpeed 3 (some .int)) (by decide +kernel) (by decide +kernel)), (hw_win (w := .initialized yX11_bestSpeed.cls) (by decide +kernel) (by decide +kernel))⟩
theorem cv_L_204 : hw_CV RL 204 yX11_bestSpeed cX11_bestSpeed 3 (some .int) 2 := ⟨cb_X11_bestSpeed _ _, (hw_win (w := .methodLink RL 204 yX11_bestSpeed) (by decide +kernel) (by decide +kernel)), (hw_win (w := .instanceMethod yX11_bestSpeed) (by decide +kernel) (by decide +kernel)), (hw_win (w := .selects yX11_bestSpeed.cls yX11_bestSpeed yX11_bestSpeed) (by decide +kernel) (by decide +kernel))⟩
set_option maxHeartbeats 4000000 in
set_option maxRecDepth 100000 in
theorem lc_0 {p : Program} {l : Launch} {e : Env} {s : State} {m : MethodId} {below : List Frame} {meth : Method} {c : Code} {H : Heap} {locs : List Loc} {cells slots : Nat} {Q : State → Prop} {ls : Array Slot} {Z : hw_Z} {M : hw_M} {b L i oa da : Nat} {xs : Nat → Int32} {ad ae : hp_ad} {S : hs_S} (hst : l.stackTraces = false) (C : lw_cx p s m c Z b L xs) (hI : hw_iv Z s M H locs) (hO : lw_ok Z M oa da ad ae S) (hl : lv_has ls 9 [(0, .ref b), (1, .ref (ad 0 0)), (2, .ref (ae 0 0)), (3, .ref oa), (4, .ref da), (5, .int (nI i))]) (hi : i + 5 ≤ L) (hc9 : cells + 770 ≤ 396424) (hs9 : slots + 15400 ≤ 7906833)
    (K : ∀ (M1 : hw_M) (H1 : Heap) (locs1 : List Loc) (ae1 : hp_ad) (S1 : hs_S) (cells1 slots1 : Nat) (ls1 : Array Slot), hw_iv Z s M1 H1 locs1 → ae1 0 0 = ae 0 0 → lw_ok Z M1 oa da ad ae1 S1 → lv_has ls1 9 [(0, .ref b), (1, .ref (ad 0 0)), (2, .ref (ae 0 0)), (3, .ref oa), (4, .ref da), (5, .int (nI i))] → cells1 ≤ cells + 770 → slots1 ≤ slots + 15400 → W p l e room_1 s m #[Value.ref b] below meth c H1 locs1 cells1 slots1 Q (F0 m 2013 ls1 [])) :
    W p l e room_1 s m #[Value.ref b] below meth c H locs cells slots Q (F0 m 172 ls []) := by
  obtain ⟨hx, hb, hml, hown, hts, hk, hX, hbl, hbA, hL⟩ := C
  obtain ⟨T, X, f, g, h, hV, ho, hd⟩ := hO
  refine lv_aload_n hx hb dL_law_172 rfl (lv_at hl 1 rfl) ?_
  refine lv_aload_n hx hb dL_law_173 rfl (lv_at hl 3 rfl) ?_
  refine hw_ci hI (hw_rSH hx hb hml hown hts hk hI (m_L_piece l hst Z M ad S T (lw_b oa da ae S X) oa f h.1 hV.b (Or.inl rfl) ho) cs_L_109 ⟨rfl, rfl⟩ ⟨(Nat.le_of_ble_eq_true rfl), (Nat.le_of_ble_eq_true rfl)⟩ rfl hl.1 rfl (Nat.le_of_ble_eq_true rfl) ⟨by show _ ≤ 396424; omega, by show _ ≤ 7906833; omega⟩ dL_law_174) (fun r1 M1 H locs hR hI => ?_)
  obtain ⟨e1, T1, f1, h, ho, hv, hd⟩ := lw_w h ho hd hR
  refine lv_istore (lv' := [(6, .int r1), (0, .ref b), (1, .ref (ad 0 0)), (2, .ref (ae 0 0)), (3, .ref oa), (4, .ref da), (5, .int (nI i))]) hx hb dL_law_177 hl (by decide) rfl (fun ls hl => ?_)
  refine lv_aload_n hx hb dL_law_179 rfl (lv_at hl 3 rfl) ?_
  have he : M1 (ae 0 0) = hr_e0 Z ae S X 0 := h.2.m 0 0 (show 0 < 4 by decide)
  refine hw_ci hI (hw_rV hx hb hml hown hts hk hI (m_X11_piece l Z M1 ae S X (lw_c oa da ad) h.2 hV (lw_A h (by rw [ho]; exact fun q => by cases q) (by rw [hd]; exact fun q => by cases q))) cv_L_114 he rfl rfl ⟨rfl, rfl⟩ ⟨(Nat.le_of_ble_eq_true rfl), (Nat.le_of_ble_eq_true rfl)⟩ rfl hl.1 rfl (Nat.le_of_ble_eq_true rfl) ⟨by show _ ≤ 396424; omega, by show _ ≤ 7906833; omega⟩ dL_law_180) (fun r2 M2 H locs hR hI => ?_)
  clear he
  obtain ⟨ae1, X1, e0, h, ho, hd, ht, hq⟩ := lw_r h ho hd hR
  have hS : hv_ok (st_piece S).2.2 := hk_piece hV
  have hc : (st_piece S).1 ≤ 3 := hc_piece S
  refine lv_istore (lv' := [(7, .int r2), (6, .int r1), (0, .ref b), (1, .ref (ad 0 0)), (2, .ref (ae 0 0)), (3, .ref oa), (4, .ref da), (5, .int (nI i))]) hx hb dL_law_183 hl (by decide) rfl (fun ls hl => ?_)
  refine lv_aload_n hx hb dL_law_185 rfl (lv_at hl 4 rfl) ?_
  have he : M2 (ae 0 0) = hr_e0 Z ae1 (st_piece S).2.2 X1 0 := by rw [← e0]; exact h.2.m 0 0 (show 0 < 4 by decide)
  refine hw_ci hI (hw_rV hx hb hml hown hts hk hI (m_X11_thrown l Z M2 (ae 0 0) _ _ _ _ _ _ he) cv_L_115 he rfl rfl ⟨rfl, rfl⟩ ⟨(Nat.le_of_ble_eq_true rfl), (Nat.le_of_ble_eq_true rfl)⟩ rfl hl.1 rfl (Nat.le_of_ble_eq_true rfl) ⟨by show _ ≤ 396424; omega, by show _ ≤ 7906833; omega⟩ dL_law_186) (fun r3 M3 H locs hR hI => ?_)
  obtain ⟨e3, rfl⟩ := hR
  refine lv_iload hx hb dL_law_189 (lv_at hl 1 rfl) ?_
  refine lv_icmp_eq (tgt := 196) hx hb dL_law_191 (by decide) (fun _ => ?_) (fun hc => absurd (e3.symm.trans (ht.trans e1)) hc)
  refine lv_iload hx hb dL_law_196 (lv_at hl 1 rfl) ?_
  refine lv_if_ne (tgt := 213) hx hb dL_law_198 (by decide) (fun c198 => ?_) (fun c198 => ?_)
  · refine lv_goto (tgt := 2013) hx hb dL_law_213 (by decide) ?_
    exact K M2 H locs ae1 (st_piece S).2.2 _ _ ls hI e0 ⟨T1, X1, f1, g, h, hS, ho, hd⟩ (lv_sub hl [2, 3, 4, 5, 6, 7] rfl) (by omega) (by omega)
  · have o0 : (st_piece S).1 = 0 := (hc_0 hc).mp (e1.trans c198)
    have hv0 := hv o0
    have hq0 := hq o0
    refine lv_aload_n hx hb dL_law_201 rfl (lv_at hl 5 rfl) ?_
    refine lv_iconst (v := nI 0) hx hb dL_law_202 (by decide) ?_
    refine hw_lald hx hb hk hI ho (j := 0) rfl (by omega) (by decide) dL_law_203 ?_
    refine lv_iload hx hb dL_law_204 (lv_at hl 0 rfl) ?_
    refine lv_i2l (v := r2.toInt64) hx hb dL_law_206 rfl ?_
    refine W.lcmp hx hb dL_law_207 ?_
    refine lv_if_eq (tgt := 213) hx hb dL_law_208 (by decide) (fun _ => ?_) (fun hc => absurd ((lg_cmp_eq _ _).mpr (hv0.trans (congrArg (fun x => x.toInt64) hq0))) hc)
    refine lv_goto (tgt := 2013) hx hb dL_law_213 (by decide) ?_
    exact K M2 H locs ae1 (st_piece S).2.2 _ _ ls hI e0 ⟨T1, X1, f1, g, h, hS, ho, hd⟩ (lv_sub hl [2, 3, 4, 5, 6, 7] rfl) (by omega) (by omega)

set_option maxHeartbeats 4000000 in
set_option maxRecDepth 100000 in
theorem lc_1 {p : Program} {l : Launch} {e : Env} {s : State} {m : MethodId} {below : List Frame} {meth : Method} {c : Code} {H : Heap} {locs : List Loc} {cells slots : Nat} {Q : State → Prop} {ls : Array Slot} {Z : hw_Z} {M : hw_M} {b L i oa da : Nat} {xs : Nat → Int32} {ad ae : hp_ad} {S : hs_S} (hst : l.stackTraces = false) (C : lw_cx p s m c Z b L xs) (hI : hw_iv Z s M H locs) (hO : lw_ok Z M oa da ad ae S) (hl : lv_has ls 9 [(0, .ref b), (1, .ref (ad 0 0)), (2, .ref (ae 0 0)), (3, .ref oa), (4, .ref da), (5, .int (nI i))]) (hi : i + 5 ≤ L) (hc9 : cells + 770 ≤ 396424) (hs9 : slots + 15400 ≤ 7906833)
    (K : ∀ (M1 : hw_M) (H1 : Heap) (locs1 : List Loc) (ae1 : hp_ad) (S1 : hs_S) (cells1 slots1 : Nat) (ls1 : Array Slot), hw_iv Z s M1 H1 locs1 → ae1 0 0 = ae 0 0 → lw_ok Z M1 oa da ad ae1 S1 → lv_has ls1 9 [(0, .ref b), (1, .ref (ad 0 0)), (2, .ref (ae 0 0)), (3, .ref oa), (4, .ref da), (5, .int (nI i))] → cells1 ≤ cells + 770 → slots1 ≤ slots + 15400 → W p l e room_1 s m #[Value.ref b] below meth c H1 locs1 cells1 slots1 Q (F0 m 2013 ls1 [])) :
    W p l e room_1 s m #[Value.ref b] below meth c H locs cells slots Q (F0 m 216 ls []) := by
  obtain ⟨hx, hb, hml, hown, hts, hk, hX, hbl, hbA, hL⟩ := C
  obtain ⟨T, X, f, g, h, hV, ho, hd⟩ := hO
  refine lv_aload_n hx hb dL_law_216 rfl (lv_at hl 1 rfl) ?_
  refine lv_aload_n hx hb dL_law_217 rfl (lv_at hl 0 rfl) ?_
  refine lv_iload hx hb dL_law_218 (lv_at hl 5 rfl) ?_
  refine lv_iconst (v := nI 1) hx hb dL_law_220 (by decide) ?_
  refine lv_iadd hx hb dL_law_221 ?_
  refine hw_ti (nI_add _ _) ?_
  refine lw_sld hx hb hX hbl hbA hL hI (j := i + 1) (by first | rfl | exact nI_add _ _ | exact nI_1 _) (by omega) dL_law_222 ?_
  refine lv_aload_n hx hb dL_law_223 rfl (lv_at hl 0 rfl) ?_
  refine lv_iload hx hb dL_law_224 (lv_at hl 5 rfl) ?_
  refine lv_iconst (v := nI 2) hx hb dL_law_226 (by decide) ?_
  refine lv_iadd hx hb dL_law_227 ?_
  refine hw_ti (nI_add _ _) ?_
  refine lw_sld hx hb hX hbl hbA hL hI (j := i + 2) (by first | rfl | exact nI_add _ _ | exact nI_1 _) (by omega) dL_law_228 ?_
  refine lv_aload_n hx hb dL_law_229 rfl (lv_at hl 0 rfl) ?_
  refine lv_iload hx hb dL_law_230 (lv_at hl 5 rfl) ?_
  refine lv_iconst (v := nI 3) hx hb dL_law_232 (by decide) ?_
  refine lv_iadd hx hb dL_law_233 ?_
  refine hw_ti (nI_add _ _) ?_
  refine lw_sld hx hb hX hbl hbA hL hI (j := i + 3) (by first | rfl | exact nI_add _ _ | exact nI_1 _) (by omega) dL_law_234 ?_
  refine lv_i2l (v := (xs (i + 3)).toInt64) hx hb dL_law_235 rfl ?_
  refine lv_bipush (v := nI 32) hx hb dL_law_236 (by decide) ?_
  refine lv_lshl (v := hb_shl ((xs (i + 3)).toInt64) (nI 32)) hx hb dL_law_238 rfl ?_
  refine lv_aload_n hx hb dL_law_239 rfl (lv_at hl 0 rfl) ?_
  refine lv_iload hx hb dL_law_240 (lv_at hl 5 rfl) ?_
  refine lv_iconst (v := nI 4) hx hb dL_law_242 (by decide) ?_
  refine lv_iadd hx hb dL_law_243 ?_
  refine hw_ti (nI_add _ _) ?_
  refine lw_sld hx hb hX hbl hbA hL hI (j := i + 4) (by first | rfl | exact nI_add _ _ | exact nI_1 _) (by omega) dL_law_244 ?_
  refine lv_i2l (v := (xs (i + 4)).toInt64) hx hb dL_law_245 rfl ?_
  refine lv_ldc2 (v := 4294967295) hx hb hown (hts _ (hw_win (w := .constantLong RL 118 (4294967295)) (by decide +kernel) (by decide +kernel))) dL_law_246 ?_
  refine lv_land hx hb dL_law_249 ?_
  refine lv_lor hx hb dL_law_250 ?_
  refine lv_aload_n hx hb dL_law_251 rfl (lv_at hl 3 rfl) ?_
  refine hw_ci hI (hw_rSH hx hb hml hown hts hk hI (m_L_layer l hst Z M ad S T (lw_b oa da ae S X) oa f (xs (i + 1)) (xs (i + 2)) ((hb_shl ((xs (i + 3)).toInt64) (nI 32)) ||| (((xs (i + 4)).toInt64) &&& 4294967295)) h.1 hV.b (Or.inl rfl) ho) cs_L_120 ⟨rfl, rfl⟩ ⟨(Nat.le_of_ble_eq_true rfl), (Nat.le_of_ble_eq_true rfl)⟩ rfl hl.1 rfl (Nat.le_of_ble_eq_true rfl) ⟨by show _ ≤ 396424; omega, by show _ ≤ 7906833; omega⟩ dL_law_252) (fun r1 M1 H locs hR hI => ?_)
  obtain ⟨e1, T1, f1, h, ho, hv, hd⟩ := lw_w h ho hd hR
  refine lv_istore (lv' := [(6, .int r1), (0, .ref b), (1, .ref (ad 0 0)), (2, .ref (ae 0 0)), (3, .ref oa), (4, .ref da), (5, .int (nI i))]) hx hb dL_law_255 hl (by decide) rfl (fun ls hl => ?_)
  refine lv_aload_n hx hb dL_law_257 rfl (lv_at hl 3 rfl) ?_
  refine lv_aload_n hx hb dL_law_258 rfl (lv_at hl 1 rfl) ?_
  refine lv_iload hx hb dL_law_259 (lv_at hl 6 rfl) ?_
  refine lv_iconst (v := nI 1) hx hb dL_law_261 (by decide) ?_
  refine lv_iadd hx hb dL_law_262 ?_
  refine hw_ti (nI_add _ _) ?_
  refine lw_sld hx hb hX hbl hbA hL hI (j := i + 1) (by first | rfl | exact nI_add _ _ | exact nI_1 _) (by omega) dL_law_263 ?_
  refine lv_aload_n hx hb dL_law_264 rfl (lv_at hl 1 rfl) ?_
  refine lv_iload hx hb dL_law_265 (lv_at hl 6 rfl) ?_
  refine lv_iconst (v := nI 2) hx hb dL_law_267 (by decide) ?_
  refine lv_iadd hx hb dL_law_268 ?_
  refine hw_ti (nI_add _ _) ?_
  refine lw_sld hx hb hX hbl hbA hL hI (j := i + 2) (by first | rfl | exact nI_add _ _ | exact nI_1 _) (by omega) dL_law_269 ?_
  refine lv_aload_n hx hb dL_law_270 rfl (lv_at hl 1 rfl) ?_
  refine lv_iload hx hb dL_law_271 (lv_at hl 6 rfl) ?_
  refine lv_iconst (v := nI 3) hx hb dL_law_273 (by decide) ?_
  refine lv_iadd hx hb dL_law_274 ?_
  refine hw_ti (nI_add _ _) ?_
  refine lw_sld hx hb hX hbl hbA hL hI (j := i + 3) (by first | rfl | exact nI_add _ _ | exact nI_1 _) (by omega) dL_law_275 ?_
  refine lv_i2l (v := (xs (i + 3)).toInt64) hx hb dL_law_276 rfl ?_
  refine lv_bipush (v := nI 32) hx hb dL_law_277 (by decide) ?_
  refine lv_lshl (v := hb_shl ((xs (i + 3)).toInt64) (nI 32)) hx hb dL_law_279 rfl ?_
  refine lv_aload_n hx hb dL_law_280 rfl (lv_at hl 1 rfl) ?_
  refine lv_iload hx hb dL_law_281 (lv_at hl 6 rfl) ?_
  refine lv_iconst (v := nI 4) hx hb dL_law_283 (by decide) ?_
  refine lv_iadd hx hb dL_law_284 ?_
  refine hw_ti (nI_add _ _) ?_
  refine lw_sld hx hb hX hbl hbA hL hI (j := i + 4) (by first | rfl | exact nI_add _ _ | exact nI_1 _) (by omega) dL_law_285 ?_
  refine lv_i2l (v := (xs (i + 4)).toInt64) hx hb dL_law_286 rfl ?_
  refine lv_ldc2 (v := 4294967295) hx hb hown (hts _ (hw_win (w := .constantLong RL 118 (4294967295)) (by decide +kernel) (by decide +kernel))) dL_law_287 ?_
  refine lv_land hx hb dL_law_290 ?_
  refine lv_lor hx hb dL_law_291 ?_
  have he : M1 (ae 0 0) = hr_e0 Z ae S X 0 := h.2.m 0 0 (show 0 < 4 by decide)
  refine hw_ci hI (hw_rV hx hb hml hown hts hk hI (m_X11_layer l Z M1 ae S X (lw_c oa da ad) (xs (i + 1)) (xs (i + 2)) ((hb_shl ((xs (i + 3)).toInt64) (nI 32)) ||| (((xs (i + 4)).toInt64) &&& 4294967295)) h.2 hV (lw_A h (by rw [ho]; exact fun q => by cases q) (by rw [hd]; exact fun q => by cases q))) cv_L_123 he rfl rfl ⟨rfl, rfl⟩ ⟨(Nat.le_of_ble_eq_true rfl), (Nat.le_of_ble_eq_true rfl)⟩ rfl hl.1 rfl (Nat.le_of_ble_eq_true rfl) ⟨by show _ ≤ 396424; omega, by show _ ≤ 7906833; omega⟩ dL_law_292) (fun r2 M2 H locs hR hI => ?_)
  clear he
  obtain ⟨ae1, X1, e0, h, ho, hd, ht, hq⟩ := lw_r h ho hd hR
  have hS : hv_ok (st_layer S (xs (i + 1)) (xs (i + 2)) ((hb_shl ((xs (i + 3)).toInt64) (nI 32)) ||| (((xs (i + 4)).toInt64) &&& 4294967295))).2.2 := hk_layer hV (xs (i + 1)) (xs (i + 2)) ((hb_shl ((xs (i + 3)).toInt64) (nI 32)) ||| (((xs (i + 4)).toInt64) &&& 4294967295))
  have hc : (st_layer S (xs (i + 1)) (xs (i + 2)) ((hb_shl ((xs (i + 3)).toInt64) (nI 32)) ||| (((xs (i + 4)).toInt64) &&& 4294967295))).1 ≤ 3 := hc_layer S (xs (i + 1)) (xs (i + 2)) ((hb_shl ((xs (i + 3)).toInt64) (nI 32)) ||| (((xs (i + 4)).toInt64) &&& 4294967295))
  refine lv_istore (lv' := [(7, .int r2), (6, .int r1), (0, .ref b), (1, .ref (ad 0 0)), (2, .ref (ae 0 0)), (3, .ref oa), (4, .ref da), (5, .int (nI i))]) hx hb dL_law_295 hl (by decide) rfl (fun ls hl => ?_)
  refine lv_aload_n hx hb dL_law_297 rfl (lv_at hl 4 rfl) ?_
  have he : M2 (ae 0 0) = hr_e0 Z ae1 (st_layer S (xs (i + 1)) (xs (i + 2)) ((hb_shl ((xs (i + 3)).toInt64) (nI 32)) ||| (((xs (i + 4)).toInt64) &&& 4294967295))).2.2 X1 0 := by rw [← e0]; exact h.2.m 0 0 (show 0 < 4 by decide)
  refine hw_ci hI (hw_rV hx hb hml hown hts hk hI (m_X11_thrown l Z M2 (ae 0 0) _ _ _ _ _ _ he) cv_L_115 he rfl rfl ⟨rfl, rfl⟩ ⟨(Nat.le_of_ble_eq_true rfl), (Nat.le_of_ble_eq_true rfl)⟩ rfl hl.1 rfl (Nat.le_of_ble_eq_true rfl) ⟨by show _ ≤ 396424; omega, by show _ ≤ 7906833; omega⟩ dL_law_298) (fun r3 M3 H locs hR hI => ?_)
  obtain ⟨e3, rfl⟩ := hR
  refine lv_iload hx hb dL_law_301 (lv_at hl 1 rfl) ?_
  refine lv_icmp_eq (tgt := 308) hx hb dL_law_303 (by decide) (fun _ => ?_) (fun hc => absurd (e3.symm.trans (ht.trans e1)) hc)
  refine lv_iload hx hb dL_law_308 (lv_at hl 1 rfl) ?_
  refine lv_if_ne (tgt := 325) hx hb dL_law_310 (by decide) (fun c310 => ?_) (fun c310 => ?_)
  · refine lv_goto (tgt := 2013) hx hb dL_law_325 (by decide) ?_
    exact K M2 H locs ae1 (st_layer S (xs (i + 1)) (xs (i + 2)) ((hb_shl ((xs (i + 3)).toInt64) (nI 32)) ||| (((xs (i + 4)).toInt64) &&& 4294967295))).2.2 _ _ ls hI e0 ⟨T1, X1, f1, g, h, hS, ho, hd⟩ (lv_sub hl [2, 3, 4, 5, 6, 7] rfl) (by omega) (by omega)
  · have o0 : (st_layer S (xs (i + 1)) (xs (i + 2)) ((hb_shl ((xs (i + 3)).toInt64) (nI 32)) ||| (((xs (i + 4)).toInt64) &&& 4294967295))).1 = 0 := (hc_0 hc).mp (e1.trans c310)
    have hv0 := hv o0
    have hq0 := hq o0
    refine lv_aload_n hx hb dL_law_313 rfl (lv_at hl 5 rfl) ?_
    refine lv_iconst (v := nI 0) hx hb dL_law_314 (by decide) ?_
    refine hw_lald hx hb hk hI ho (j := 0) rfl (by omega) (by decide) dL_law_315 ?_
    refine lv_iload hx hb dL_law_316 (lv_at hl 0 rfl) ?_
    refine lv_i2l (v := r2.toInt64) hx hb dL_law_318 rfl ?_
    refine W.lcmp hx hb dL_law_319 ?_
    refine lv_if_eq (tgt := 325) hx hb dL_law_320 (by decide) (fun _ => ?_) (fun hc => absurd ((lg_cmp_eq _ _).mpr (hv0.trans (congrArg (fun x => x.toInt64) hq0))) hc)
    refine lv_goto (tgt := 2013) hx hb dL_law_325 (by decide) ?_
    exact K M2 H locs ae1 (st_layer S (xs (i + 1)) (xs (i + 2)) ((hb_shl ((xs (i + 3)).toInt64) (nI 32)) ||| (((xs (i + 4)).toInt64) &&& 4294967295))).2.2 _ _ ls hI e0 ⟨T1, X1, f1, g, h, hS, ho, hd⟩ (lv_sub hl [2, 3, 4, 5, 6, 7] rfl) (by omega) (by omega)

set_option maxHeartbeats 4000000 in
set_option maxRecDepth 100000 in
theorem lc_2 {p : Program} {l : Launch} {e : Env} {s : State} {m : MethodId} {below : List Frame} {meth : Method} {c : Code} {H : Heap} {locs : List Loc} {cells slots : Nat} {Q : State → Prop} {ls : Array Slot} {Z : hw_Z} {M : hw_M} {b L i oa da : Nat} {xs : Nat → Int32} {ad ae : hp_ad} {S : hs_S} (hst : l.stackTraces = false) (C : lw_cx p s m c Z b L xs) (hI : hw_iv Z s M H locs) (hO : lw_ok Z M oa da ad ae S) (hl : lv_has ls 9 [(0, .ref b), (1, .ref (ad 0 0)), (2, .ref (ae 0 0)), (3, .ref oa), (4, .ref da), (5, .int (nI i))]) (hi : i + 5 ≤ L) (hc9 : cells + 770 ≤ 396424) (hs9 : slots + 15400 ≤ 7906833)
    (K : ∀ (M1 : hw_M) (H1 : Heap) (locs1 : List Loc) (ae1 : hp_ad) (S1 : hs_S) (cells1 slots1 : Nat) (ls1 : Array Slot), hw_iv Z s M1 H1 locs1 → ae1 0 0 = ae 0 0 → lw_ok Z M1 oa da ad ae1 S1 → lv_has ls1 9 [(0, .ref b), (1, .ref (ad 0 0)), (2, .ref (ae 0 0)), (3, .ref oa), (4, .ref da), (5, .int (nI i))] → cells1 ≤ cells + 770 → slots1 ≤ slots + 15400 → W p l e room_1 s m #[Value.ref b] below meth c H1 locs1 cells1 slots1 Q (F0 m 2013 ls1 [])) :
    W p l e room_1 s m #[Value.ref b] below meth c H locs cells slots Q (F0 m 328 ls []) := by
  obtain ⟨hx, hb, hml, hown, hts, hk, hX, hbl, hbA, hL⟩ := C
  obtain ⟨T, X, f, g, h, hV, ho, hd⟩ := hO
  refine lv_aload_n hx hb dL_law_328 rfl (lv_at hl 1 rfl) ?_
  refine lv_aload_n hx hb dL_law_329 rfl (lv_at hl 0 rfl) ?_
  refine lv_iload hx hb dL_law_330 (lv_at hl 5 rfl) ?_
  refine lv_iconst (v := nI 1) hx hb dL_law_332 (by decide) ?_
  refine lv_iadd hx hb dL_law_333 ?_
  refine hw_ti (nI_add _ _) ?_
  refine lw_sld hx hb hX hbl hbA hL hI (j := i + 1) (by first | rfl | exact nI_add _ _ | exact nI_1 _) (by omega) dL_law_334 ?_
  refine lv_aload_n hx hb dL_law_335 rfl (lv_at hl 0 rfl) ?_
  refine lv_iload hx hb dL_law_336 (lv_at hl 5 rfl) ?_
  refine lv_iconst (v := nI 2) hx hb dL_law_338 (by decide) ?_
  refine lv_iadd hx hb dL_law_339 ?_
  refine hw_ti (nI_add _ _) ?_
  refine lw_sld hx hb hX hbl hbA hL hI (j := i + 2) (by first | rfl | exact nI_add _ _ | exact nI_1 _) (by omega) dL_law_340 ?_
  refine lv_aload_n hx hb dL_law_341 rfl (lv_at hl 3 rfl) ?_
  refine hw_ci hI (hw_rSH hx hb hml hown hts hk hI (m_L_lay l hst Z M ad S T (lw_b oa da ae S X) oa f (xs (i + 1)) (xs (i + 2)) h.1 hV.b (Or.inl rfl) ho) cs_L_124 ⟨rfl, rfl⟩ ⟨(Nat.le_of_ble_eq_true rfl), (Nat.le_of_ble_eq_true rfl)⟩ rfl hl.1 rfl (Nat.le_of_ble_eq_true rfl) ⟨by show _ ≤ 396424; omega, by show _ ≤ 7906833; omega⟩ dL_law_342) (fun r1 M1 H locs hR hI => ?_)
  obtain ⟨e1, T1, f1, h, ho, hv, hd⟩ := lw_w h ho hd hR
  refine lv_istore (lv' := [(6, .int r1), (0, .ref b), (1, .ref (ad 0 0)), (2, .ref (ae 0 0)), (3, .ref oa), (4, .ref da), (5, .int (nI i))]) hx hb dL_law_345 hl (by decide) rfl (fun ls hl => ?_)
  refine lv_aload_n hx hb dL_law_347 rfl (lv_at hl 3 rfl) ?_
  refine lv_aload_n hx hb dL_law_348 rfl (lv_at hl 1 rfl) ?_
  refine lv_iload hx hb dL_law_349 (lv_at hl 6 rfl) ?_
  refine lv_iconst (v := nI 1) hx hb dL_law_351 (by decide) ?_
  refine lv_iadd hx hb dL_law_352 ?_
  refine hw_ti (nI_add _ _) ?_
  refine lw_sld hx hb hX hbl hbA hL hI (j := i + 1) (by first | rfl | exact nI_add _ _ | exact nI_1 _) (by omega) dL_law_353 ?_
  refine lv_aload_n hx hb dL_law_354 rfl (lv_at hl 1 rfl) ?_
  refine lv_iload hx hb dL_law_355 (lv_at hl 6 rfl) ?_
  refine lv_iconst (v := nI 2) hx hb dL_law_357 (by decide) ?_
  refine lv_iadd hx hb dL_law_358 ?_
  refine hw_ti (nI_add _ _) ?_
  refine lw_sld hx hb hX hbl hbA hL hI (j := i + 2) (by first | rfl | exact nI_add _ _ | exact nI_1 _) (by omega) dL_law_359 ?_
  have he : M1 (ae 0 0) = hr_e0 Z ae S X 0 := h.2.m 0 0 (show 0 < 4 by decide)
  refine hw_ci hI (hw_rV hx hb hml hown hts hk hI (m_X11_lay l Z M1 ae S X (lw_c oa da ad) (xs (i + 1)) (xs (i + 2)) h.2 hV (lw_A h (by rw [ho]; exact fun q => by cases q) (by rw [hd]; exact fun q => by cases q))) cv_L_127 he rfl rfl ⟨rfl, rfl⟩ ⟨(Nat.le_of_ble_eq_true rfl), (Nat.le_of_ble_eq_true rfl)⟩ rfl hl.1 rfl (Nat.le_of_ble_eq_true rfl) ⟨by show _ ≤ 396424; omega, by show _ ≤ 7906833; omega⟩ dL_law_360) (fun r2 M2 H locs hR hI => ?_)
  clear he
  obtain ⟨ae1, X1, e0, h, ho, hd, ht, hq⟩ := lw_r h ho hd hR
  have hS : hv_ok (st_lay S (xs (i + 1)) (xs (i + 2))).2.2 := hk_lay hV (xs (i + 1)) (xs (i + 2))
  have hc : (st_lay S (xs (i + 1)) (xs (i + 2))).1 ≤ 3 := hc_lay S (xs (i + 1)) (xs (i + 2))
  refine lv_istore (lv' := [(7, .int r2), (6, .int r1), (0, .ref b), (1, .ref (ad 0 0)), (2, .ref (ae 0 0)), (3, .ref oa), (4, .ref da), (5, .int (nI i))]) hx hb dL_law_363 hl (by decide) rfl (fun ls hl => ?_)
  refine lv_aload_n hx hb dL_law_365 rfl (lv_at hl 4 rfl) ?_
  have he : M2 (ae 0 0) = hr_e0 Z ae1 (st_lay S (xs (i + 1)) (xs (i + 2))).2.2 X1 0 := by rw [← e0]; exact h.2.m 0 0 (show 0 < 4 by decide)
  refine hw_ci hI (hw_rV hx hb hml hown hts hk hI (m_X11_thrown l Z M2 (ae 0 0) _ _ _ _ _ _ he) cv_L_115 he rfl rfl ⟨rfl, rfl⟩ ⟨(Nat.le_of_ble_eq_true rfl), (Nat.le_of_ble_eq_true rfl)⟩ rfl hl.1 rfl (Nat.le_of_ble_eq_true rfl) ⟨by show _ ≤ 396424; omega, by show _ ≤ 7906833; omega⟩ dL_law_366) (fun r3 M3 H locs hR hI => ?_)
  obtain ⟨e3, rfl⟩ := hR
  refine lv_iload hx hb dL_law_369 (lv_at hl 1 rfl) ?_
  refine lv_icmp_eq (tgt := 376) hx hb dL_law_371 (by decide) (fun _ => ?_) (fun hc => absurd (e3.symm.trans (ht.trans e1)) hc)
  refine lv_iload hx hb dL_law_376 (lv_at hl 1 rfl) ?_
  refine lv_if_ne (tgt := 393) hx hb dL_law_378 (by decide) (fun c378 => ?_) (fun c378 => ?_)
  · refine lv_goto (tgt := 2013) hx hb dL_law_393 (by decide) ?_
    exact K M2 H locs ae1 (st_lay S (xs (i + 1)) (xs (i + 2))).2.2 _ _ ls hI e0 ⟨T1, X1, f1, g, h, hS, ho, hd⟩ (lv_sub hl [2, 3, 4, 5, 6, 7] rfl) (by omega) (by omega)
  · have o0 : (st_lay S (xs (i + 1)) (xs (i + 2))).1 = 0 := (hc_0 hc).mp (e1.trans c378)
    have hv0 := hv o0
    have hq0 := hq o0
    refine lv_aload_n hx hb dL_law_381 rfl (lv_at hl 5 rfl) ?_
    refine lv_iconst (v := nI 0) hx hb dL_law_382 (by decide) ?_
    refine hw_lald hx hb hk hI ho (j := 0) rfl (by omega) (by decide) dL_law_383 ?_
    refine lv_iload hx hb dL_law_384 (lv_at hl 0 rfl) ?_
    refine lv_i2l (v := r2.toInt64) hx hb dL_law_386 rfl ?_
    refine W.lcmp hx hb dL_law_387 ?_
    refine lv_if_eq (tgt := 393) hx hb dL_law_388 (by decide) (fun _ => ?_) (fun hc => absurd ((lg_cmp_eq _ _).mpr (hv0.trans (congrArg (fun x => x.toInt64) hq0))) hc)
    refine lv_goto (tgt := 2013) hx hb dL_law_393 (by decide) ?_
    exact K M2 H locs ae1 (st_lay S (xs (i + 1)) (xs (i + 2))).2.2 _ _ ls hI e0 ⟨T1, X1, f1, g, h, hS, ho, hd⟩ (lv_sub hl [2, 3, 4, 5, 6, 7] rfl) (by omega) (by omega)

set_option maxHeartbeats 4000000 in
set_option maxRecDepth 100000 in
theorem lc_3 {p : Program} {l : Launch} {e : Env} {s : State} {m : MethodId} {below : List Frame} {meth : Method} {c : Code} {H : Heap} {locs : List Loc} {cells slots : Nat} {Q : State → Prop} {ls : Array Slot} {Z : hw_Z} {M : hw_M} {b L i oa da : Nat} {xs : Nat → Int32} {ad ae : hp_ad} {S : hs_S} (hst : l.stackTraces = false) (C : lw_cx p s m c Z b L xs) (hI : hw_iv Z s M H locs) (hO : lw_ok Z M oa da ad ae S) (hl : lv_has ls 9 [(0, .ref b), (1, .ref (ad 0 0)), (2, .ref (ae 0 0)), (3, .ref oa), (4, .ref da), (5, .int (nI i))]) (hi : i + 5 ≤ L) (hc9 : cells + 770 ≤ 396424) (hs9 : slots + 15400 ≤ 7906833)
    (K : ∀ (M1 : hw_M) (H1 : Heap) (locs1 : List Loc) (ae1 : hp_ad) (S1 : hs_S) (cells1 slots1 : Nat) (ls1 : Array Slot), hw_iv Z s M1 H1 locs1 → ae1 0 0 = ae 0 0 → lw_ok Z M1 oa da ad ae1 S1 → lv_has ls1 9 [(0, .ref b), (1, .ref (ad 0 0)), (2, .ref (ae 0 0)), (3, .ref oa), (4, .ref da), (5, .int (nI i))] → cells1 ≤ cells + 770 → slots1 ≤ slots + 15400 → W p l e room_1 s m #[Value.ref b] below meth c H1 locs1 cells1 slots1 Q (F0 m 2013 ls1 [])) :
    W p l e room_1 s m #[Value.ref b] below meth c H locs cells slots Q (F0 m 396 ls []) := by
  obtain ⟨hx, hb, hml, hown, hts, hk, hX, hbl, hbA, hL⟩ := C
  obtain ⟨T, X, f, g, h, hV, ho, hd⟩ := hO
  refine lv_aload_n hx hb dL_law_396 rfl (lv_at hl 1 rfl) ?_
  refine lv_aload_n hx hb dL_law_397 rfl (lv_at hl 0 rfl) ?_
  refine lv_iload hx hb dL_law_398 (lv_at hl 5 rfl) ?_
  refine lv_iconst (v := nI 1) hx hb dL_law_400 (by decide) ?_
  refine lv_iadd hx hb dL_law_401 ?_
  refine hw_ti (nI_add _ _) ?_
  refine lw_sld hx hb hX hbl hbA hL hI (j := i + 1) (by first | rfl | exact nI_add _ _ | exact nI_1 _) (by omega) dL_law_402 ?_
  refine lv_aload_n hx hb dL_law_403 rfl (lv_at hl 0 rfl) ?_
  refine lv_iload hx hb dL_law_404 (lv_at hl 5 rfl) ?_
  refine lv_iconst (v := nI 2) hx hb dL_law_406 (by decide) ?_
  refine lv_iadd hx hb dL_law_407 ?_
  refine hw_ti (nI_add _ _) ?_
  refine lw_sld hx hb hX hbl hbA hL hI (j := i + 2) (by first | rfl | exact nI_add _ _ | exact nI_1 _) (by omega) dL_law_408 ?_
  refine lv_aload_n hx hb dL_law_409 rfl (lv_at hl 3 rfl) ?_
  refine hw_ci hI (hw_rSH hx hb hml hown hts hk hI (m_L_powder l hst Z M ad S T (lw_b oa da ae S X) oa f (xs (i + 1)) (xs (i + 2)) h.1 hV.b (Or.inl rfl) ho) cs_L_128 ⟨rfl, rfl⟩ ⟨(Nat.le_of_ble_eq_true rfl), (Nat.le_of_ble_eq_true rfl)⟩ rfl hl.1 rfl (Nat.le_of_ble_eq_true rfl) ⟨by show _ ≤ 396424; omega, by show _ ≤ 7906833; omega⟩ dL_law_410) (fun r1 M1 H locs hR hI => ?_)
  obtain ⟨e1, T1, f1, h, ho, hv, hd⟩ := lw_w h ho hd hR
  refine lv_istore (lv' := [(6, .int r1), (0, .ref b), (1, .ref (ad 0 0)), (2, .ref (ae 0 0)), (3, .ref oa), (4, .ref da), (5, .int (nI i))]) hx hb dL_law_413 hl (by decide) rfl (fun ls hl => ?_)
  refine lv_aload_n hx hb dL_law_415 rfl (lv_at hl 3 rfl) ?_
  refine lv_aload_n hx hb dL_law_416 rfl (lv_at hl 1 rfl) ?_
  refine lv_iload hx hb dL_law_417 (lv_at hl 6 rfl) ?_
  refine lv_iconst (v := nI 1) hx hb dL_law_419 (by decide) ?_
  refine lv_iadd hx hb dL_law_420 ?_
  refine hw_ti (nI_add _ _) ?_
  refine lw_sld hx hb hX hbl hbA hL hI (j := i + 1) (by first | rfl | exact nI_add _ _ | exact nI_1 _) (by omega) dL_law_421 ?_
  refine lv_aload_n hx hb dL_law_422 rfl (lv_at hl 1 rfl) ?_
  refine lv_iload hx hb dL_law_423 (lv_at hl 6 rfl) ?_
  refine lv_iconst (v := nI 2) hx hb dL_law_425 (by decide) ?_
  refine lv_iadd hx hb dL_law_426 ?_
  refine hw_ti (nI_add _ _) ?_
  refine lw_sld hx hb hX hbl hbA hL hI (j := i + 2) (by first | rfl | exact nI_add _ _ | exact nI_1 _) (by omega) dL_law_427 ?_
  have he : M1 (ae 0 0) = hr_e0 Z ae S X 0 := h.2.m 0 0 (show 0 < 4 by decide)
  refine hw_ci hI (hw_rV hx hb hml hown hts hk hI (m_X11_powder l Z M1 ae S X (lw_c oa da ad) (xs (i + 1)) (xs (i + 2)) h.2 hV (lw_A h (by rw [ho]; exact fun q => by cases q) (by rw [hd]; exact fun q => by cases q))) cv_L_130 he rfl rfl ⟨rfl, rfl⟩ ⟨(Nat.le_of_ble_eq_true rfl), (Nat.le_of_ble_eq_true rfl)⟩ rfl hl.1 rfl (Nat.le_of_ble_eq_true rfl) ⟨by show _ ≤ 396424; omega, by show _ ≤ 7906833; omega⟩ dL_law_428) (fun r2 M2 H locs hR hI => ?_)
  clear he
  obtain ⟨ae1, X1, e0, h, ho, hd, ht, hq⟩ := lw_r h ho hd hR
  have hS : hv_ok (st_powder S (xs (i + 1)) (xs (i + 2))).2.2 := hk_powder hV (xs (i + 1)) (xs (i + 2))
  have hc : (st_powder S (xs (i + 1)) (xs (i + 2))).1 ≤ 3 := hc_powder S (xs (i + 1)) (xs (i + 2))
  refine lv_istore (lv' := [(7, .int r2), (6, .int r1), (0, .ref b), (1, .ref (ad 0 0)), (2, .ref (ae 0 0)), (3, .ref oa), (4, .ref da), (5, .int (nI i))]) hx hb dL_law_431 hl (by decide) rfl (fun ls hl => ?_)
  refine lv_aload_n hx hb dL_law_433 rfl (lv_at hl 4 rfl) ?_
  have he : M2 (ae 0 0) = hr_e0 Z ae1 (st_powder S (xs (i + 1)) (xs (i + 2))).2.2 X1 0 := by rw [← e0]; exact h.2.m 0 0 (show 0 < 4 by decide)
  refine hw_ci hI (hw_rV hx hb hml hown hts hk hI (m_X11_thrown l Z M2 (ae 0 0) _ _ _ _ _ _ he) cv_L_115 he rfl rfl ⟨rfl, rfl⟩ ⟨(Nat.le_of_ble_eq_true rfl), (Nat.le_of_ble_eq_true rfl)⟩ rfl hl.1 rfl (Nat.le_of_ble_eq_true rfl) ⟨by show _ ≤ 396424; omega, by show _ ≤ 7906833; omega⟩ dL_law_434) (fun r3 M3 H locs hR hI => ?_)
  obtain ⟨e3, rfl⟩ := hR
  refine lv_iload hx hb dL_law_437 (lv_at hl 1 rfl) ?_
  refine lv_icmp_eq (tgt := 444) hx hb dL_law_439 (by decide) (fun _ => ?_) (fun hc => absurd (e3.symm.trans (ht.trans e1)) hc)
  refine lv_iload hx hb dL_law_444 (lv_at hl 1 rfl) ?_
  refine lv_if_ne (tgt := 461) hx hb dL_law_446 (by decide) (fun c446 => ?_) (fun c446 => ?_)
  · refine lv_goto (tgt := 2013) hx hb dL_law_461 (by decide) ?_
    exact K M2 H locs ae1 (st_powder S (xs (i + 1)) (xs (i + 2))).2.2 _ _ ls hI e0 ⟨T1, X1, f1, g, h, hS, ho, hd⟩ (lv_sub hl [2, 3, 4, 5, 6, 7] rfl) (by omega) (by omega)
  · have o0 : (st_powder S (xs (i + 1)) (xs (i + 2))).1 = 0 := (hc_0 hc).mp (e1.trans c446)
    have hv0 := hv o0
    have hq0 := hq o0
    refine lv_aload_n hx hb dL_law_449 rfl (lv_at hl 5 rfl) ?_
    refine lv_iconst (v := nI 0) hx hb dL_law_450 (by decide) ?_
    refine hw_lald hx hb hk hI ho (j := 0) rfl (by omega) (by decide) dL_law_451 ?_
    refine lv_iload hx hb dL_law_452 (lv_at hl 0 rfl) ?_
    refine lv_i2l (v := r2.toInt64) hx hb dL_law_454 rfl ?_
    refine W.lcmp hx hb dL_law_455 ?_
    refine lv_if_eq (tgt := 461) hx hb dL_law_456 (by decide) (fun _ => ?_) (fun hc => absurd ((lg_cmp_eq _ _).mpr (hv0.trans (congrArg (fun x => x.toInt64) hq0))) hc)
    refine lv_goto (tgt := 2013) hx hb dL_law_461 (by decide) ?_
    exact K M2 H locs ae1 (st_powder S (xs (i + 1)) (xs (i + 2))).2.2 _ _ ls hI e0 ⟨T1, X1, f1, g, h, hS, ho, hd⟩ (lv_sub hl [2, 3, 4, 5, 6, 7] rfl) (by omega) (by omega)

set_option maxHeartbeats 4000000 in
set_option maxRecDepth 100000 in
theorem lc_4 {p : Program} {l : Launch} {e : Env} {s : State} {m : MethodId} {below : List Frame} {meth : Method} {c : Code} {H : Heap} {locs : List Loc} {cells slots : Nat} {Q : State → Prop} {ls : Array Slot} {Z : hw_Z} {M : hw_M} {b L i oa da : Nat} {xs : Nat → Int32} {ad ae : hp_ad} {S : hs_S} (hst : l.stackTraces = false) (C : lw_cx p s m c Z b L xs) (hI : hw_iv Z s M H locs) (hO : lw_ok Z M oa da ad ae S) (hl : lv_has ls 9 [(0, .ref b), (1, .ref (ad 0 0)), (2, .ref (ae 0 0)), (3, .ref oa), (4, .ref da), (5, .int (nI i))]) (hi : i + 5 ≤ L) (hc9 : cells + 770 ≤ 396424) (hs9 : slots + 15400 ≤ 7906833)
    (K : ∀ (M1 : hw_M) (H1 : Heap) (locs1 : List Loc) (ae1 : hp_ad) (S1 : hs_S) (cells1 slots1 : Nat) (ls1 : Array Slot), hw_iv Z s M1 H1 locs1 → ae1 0 0 = ae 0 0 → lw_ok Z M1 oa da ad ae1 S1 → lv_has ls1 9 [(0, .ref b), (1, .ref (ad 0 0)), (2, .ref (ae 0 0)), (3, .ref oa), (4, .ref da), (5, .int (nI i))] → cells1 ≤ cells + 770 → slots1 ≤ slots + 15400 → W p l e room_1 s m #[Value.ref b] below meth c H1 locs1 cells1 slots1 Q (F0 m 2013 ls1 [])) :
    W p l e room_1 s m #[Value.ref b] below meth c H locs cells slots Q (F0 m 464 ls []) := by
  obtain ⟨hx, hb, hml, hown, hts, hk, hX, hbl, hbA, hL⟩ := C
  obtain ⟨T, X, f, g, h, hV, ho, hd⟩ := hO
  refine lv_aload_n hx hb dL_law_464 rfl (lv_at hl 1 rfl) ?_
  refine lv_aload_n hx hb dL_law_465 rfl (lv_at hl 0 rfl) ?_
  refine lv_iload hx hb dL_law_466 (lv_at hl 5 rfl) ?_
  refine lv_iconst (v := nI 1) hx hb dL_law_468 (by decide) ?_
  refine lv_iadd hx hb dL_law_469 ?_
  refine hw_ti (nI_add _ _) ?_
  refine lw_sld hx hb hX hbl hbA hL hI (j := i + 1) (by first | rfl | exact nI_add _ _ | exact nI_1 _) (by omega) dL_law_470 ?_
  refine lv_aload_n hx hb dL_law_471 rfl (lv_at hl 0 rfl) ?_
  refine lv_iload hx hb dL_law_472 (lv_at hl 5 rfl) ?_
  refine lv_iconst (v := nI 2) hx hb dL_law_474 (by decide) ?_
  refine lv_iadd hx hb dL_law_475 ?_
  refine hw_ti (nI_add _ _) ?_
  refine lw_sld hx hb hX hbl hbA hL hI (j := i + 2) (by first | rfl | exact nI_add _ _ | exact nI_1 _) (by omega) dL_law_476 ?_
  refine lv_aload_n hx hb dL_law_477 rfl (lv_at hl 3 rfl) ?_
  refine hw_ci hI (hw_rSH hx hb hml hown hts hk hI (m_L_blend l hst Z M ad S T (lw_b oa da ae S X) oa f (xs (i + 1)) (xs (i + 2)) h.1 hV.b (Or.inl rfl) ho) cs_L_131 ⟨rfl, rfl⟩ ⟨(Nat.le_of_ble_eq_true rfl), (Nat.le_of_ble_eq_true rfl)⟩ rfl hl.1 rfl (Nat.le_of_ble_eq_true rfl) ⟨by show _ ≤ 396424; omega, by show _ ≤ 7906833; omega⟩ dL_law_478) (fun r1 M1 H locs hR hI => ?_)
  obtain ⟨e1, T1, f1, h, ho, hv, hd⟩ := lw_w h ho hd hR
  refine lv_istore (lv' := [(6, .int r1), (0, .ref b), (1, .ref (ad 0 0)), (2, .ref (ae 0 0)), (3, .ref oa), (4, .ref da), (5, .int (nI i))]) hx hb dL_law_481 hl (by decide) rfl (fun ls hl => ?_)
  refine lv_aload_n hx hb dL_law_483 rfl (lv_at hl 3 rfl) ?_
  refine lv_aload_n hx hb dL_law_484 rfl (lv_at hl 1 rfl) ?_
  refine lv_iload hx hb dL_law_485 (lv_at hl 6 rfl) ?_
  refine lv_iconst (v := nI 1) hx hb dL_law_487 (by decide) ?_
  refine lv_iadd hx hb dL_law_488 ?_
  refine hw_ti (nI_add _ _) ?_
  refine lw_sld hx hb hX hbl hbA hL hI (j := i + 1) (by first | rfl | exact nI_add _ _ | exact nI_1 _) (by omega) dL_law_489 ?_
  refine lv_aload_n hx hb dL_law_490 rfl (lv_at hl 1 rfl) ?_
  refine lv_iload hx hb dL_law_491 (lv_at hl 6 rfl) ?_
  refine lv_iconst (v := nI 2) hx hb dL_law_493 (by decide) ?_
  refine lv_iadd hx hb dL_law_494 ?_
  refine hw_ti (nI_add _ _) ?_
  refine lw_sld hx hb hX hbl hbA hL hI (j := i + 2) (by first | rfl | exact nI_add _ _ | exact nI_1 _) (by omega) dL_law_495 ?_
  have he : M1 (ae 0 0) = hr_e0 Z ae S X 0 := h.2.m 0 0 (show 0 < 4 by decide)
  refine hw_ci hI (hw_rV hx hb hml hown hts hk hI (m_X11_blend l Z M1 ae S X (lw_c oa da ad) (xs (i + 1)) (xs (i + 2)) h.2 hV (lw_A h (by rw [ho]; exact fun q => by cases q) (by rw [hd]; exact fun q => by cases q))) cv_L_133 he rfl rfl ⟨rfl, rfl⟩ ⟨(Nat.le_of_ble_eq_true rfl), (Nat.le_of_ble_eq_true rfl)⟩ rfl hl.1 rfl (Nat.le_of_ble_eq_true rfl) ⟨by show _ ≤ 396424; omega, by show _ ≤ 7906833; omega⟩ dL_law_496) (fun r2 M2 H locs hR hI => ?_)
  clear he
  obtain ⟨ae1, X1, e0, h, ho, hd, ht, hq⟩ := lw_r h ho hd hR
  have hS : hv_ok (st_blend S (xs (i + 1)) (xs (i + 2))).2.2 := hk_blend hV (xs (i + 1)) (xs (i + 2))
  have hc : (st_blend S (xs (i + 1)) (xs (i + 2))).1 ≤ 3 := hc_blend S (xs (i + 1)) (xs (i + 2))
  refine lv_istore (lv' := [(7, .int r2), (6, .int r1), (0, .ref b), (1, .ref (ad 0 0)), (2, .ref (ae 0 0)), (3, .ref oa), (4, .ref da), (5, .int (nI i))]) hx hb dL_law_499 hl (by decide) rfl (fun ls hl => ?_)
  refine lv_aload_n hx hb dL_law_501 rfl (lv_at hl 4 rfl) ?_
  have he : M2 (ae 0 0) = hr_e0 Z ae1 (st_blend S (xs (i + 1)) (xs (i + 2))).2.2 X1 0 := by rw [← e0]; exact h.2.m 0 0 (show 0 < 4 by decide)
  refine hw_ci hI (hw_rV hx hb hml hown hts hk hI (m_X11_thrown l Z M2 (ae 0 0) _ _ _ _ _ _ he) cv_L_115 he rfl rfl ⟨rfl, rfl⟩ ⟨(Nat.le_of_ble_eq_true rfl), (Nat.le_of_ble_eq_true rfl)⟩ rfl hl.1 rfl (Nat.le_of_ble_eq_true rfl) ⟨by show _ ≤ 396424; omega, by show _ ≤ 7906833; omega⟩ dL_law_502) (fun r3 M3 H locs hR hI => ?_)
  obtain ⟨e3, rfl⟩ := hR
  refine lv_iload hx hb dL_law_505 (lv_at hl 1 rfl) ?_
  refine lv_icmp_eq (tgt := 512) hx hb dL_law_507 (by decide) (fun _ => ?_) (fun hc => absurd (e3.symm.trans (ht.trans e1)) hc)
  refine lv_iload hx hb dL_law_512 (lv_at hl 1 rfl) ?_
  refine lv_if_ne (tgt := 529) hx hb dL_law_514 (by decide) (fun c514 => ?_) (fun c514 => ?_)
  · refine lv_goto (tgt := 2013) hx hb dL_law_529 (by decide) ?_
    exact K M2 H locs ae1 (st_blend S (xs (i + 1)) (xs (i + 2))).2.2 _ _ ls hI e0 ⟨T1, X1, f1, g, h, hS, ho, hd⟩ (lv_sub hl [2, 3, 4, 5, 6, 7] rfl) (by omega) (by omega)
  · have o0 : (st_blend S (xs (i + 1)) (xs (i + 2))).1 = 0 := (hc_0 hc).mp (e1.trans c514)
    have hv0 := hv o0
    have hq0 := hq o0
    refine lv_aload_n hx hb dL_law_517 rfl (lv_at hl 5 rfl) ?_
    refine lv_iconst (v := nI 0) hx hb dL_law_518 (by decide) ?_
    refine hw_lald hx hb hk hI ho (j := 0) rfl (by omega) (by decide) dL_law_519 ?_
    refine lv_iload hx hb dL_law_520 (lv_at hl 0 rfl) ?_
    refine lv_i2l (v := r2.toInt64) hx hb dL_law_522 rfl ?_
    refine W.lcmp hx hb dL_law_523 ?_
    refine lv_if_eq (tgt := 529) hx hb dL_law_524 (by decide) (fun _ => ?_) (fun hc => absurd ((lg_cmp_eq _ _).mpr (hv0.trans (congrArg (fun x => x.toInt64) hq0))) hc)
    refine lv_goto (tgt := 2013) hx hb dL_law_529 (by decide) ?_
    exact K M2 H locs ae1 (st_blend S (xs (i + 1)) (xs (i + 2))).2.2 _ _ ls hI e0 ⟨T1, X1, f1, g, h, hS, ho, hd⟩ (lv_sub hl [2, 3, 4, 5, 6, 7] rfl) (by omega) (by omega)

set_option maxHeartbeats 4000000 in
set_option maxRecDepth 100000 in
theorem lc_5 {p : Program} {l : Launch} {e : Env} {s : State} {m : MethodId} {below : List Frame} {meth : Method} {c : Code} {H : Heap} {locs : List Loc} {cells slots : Nat} {Q : State → Prop} {ls : Array Slot} {Z : hw_Z} {M : hw_M} {b L i oa da : Nat} {xs : Nat → Int32} {ad ae : hp_ad} {S : hs_S} (hst : l.stackTraces = false) (C : lw_cx p s m c Z b L xs) (hI : hw_iv Z s M H locs) (hO : lw_ok Z M oa da ad ae S) (hl : lv_has ls 9 [(0, .ref b), (1, .ref (ad 0 0)), (2, .ref (ae 0 0)), (3, .ref oa), (4, .ref da), (5, .int (nI i))]) (hi : i + 5 ≤ L) (hc9 : cells + 770 ≤ 396424) (hs9 : slots + 15400 ≤ 7906833)
    (K : ∀ (M1 : hw_M) (H1 : Heap) (locs1 : List Loc) (ae1 : hp_ad) (S1 : hs_S) (cells1 slots1 : Nat) (ls1 : Array Slot), hw_iv Z s M1 H1 locs1 → ae1 0 0 = ae 0 0 → lw_ok Z M1 oa da ad ae1 S1 → lv_has ls1 9 [(0, .ref b), (1, .ref (ad 0 0)), (2, .ref (ae 0 0)), (3, .ref oa), (4, .ref da), (5, .int (nI i))] → cells1 ≤ cells + 770 → slots1 ≤ slots + 15400 → W p l e room_1 s m #[Value.ref b] below meth c H1 locs1 cells1 slots1 Q (F0 m 2013 ls1 [])) :
    W p l e room_1 s m #[Value.ref b] below meth c H locs cells slots Q (F0 m 532 ls []) := by
  obtain ⟨hx, hb, hml, hown, hts, hk, hX, hbl, hbA, hL⟩ := C
  obtain ⟨T, X, f, g, h, hV, ho, hd⟩ := hO
  refine lv_aload_n hx hb dL_law_532 rfl (lv_at hl 1 rfl) ?_
  refine lv_aload_n hx hb dL_law_533 rfl (lv_at hl 0 rfl) ?_
  refine lv_iload hx hb dL_law_534 (lv_at hl 5 rfl) ?_
  refine lv_iconst (v := nI 1) hx hb dL_law_536 (by decide) ?_
  refine lv_iadd hx hb dL_law_537 ?_
  refine hw_ti (nI_add _ _) ?_
  refine lw_sld hx hb hX hbl hbA hL hI (j := i + 1) (by first | rfl | exact nI_add _ _ | exact nI_1 _) (by omega) dL_law_538 ?_
  refine lv_aload_n hx hb dL_law_539 rfl (lv_at hl 0 rfl) ?_
  refine lv_iload hx hb dL_law_540 (lv_at hl 5 rfl) ?_
  refine lv_iconst (v := nI 2) hx hb dL_law_542 (by decide) ?_
  refine lv_iadd hx hb dL_law_543 ?_
  refine hw_ti (nI_add _ _) ?_
  refine lw_sld hx hb hX hbl hbA hL hI (j := i + 2) (by first | rfl | exact nI_add _ _ | exact nI_1 _) (by omega) dL_law_544 ?_
  refine lv_aload_n hx hb dL_law_545 rfl (lv_at hl 3 rfl) ?_
  refine hw_ci hI (hw_rSH hx hb hml hown hts hk hI (m_L_load l hst Z M ad S T (lw_b oa da ae S X) oa f (xs (i + 1)) (xs (i + 2)) h.1 hV.b (Or.inl rfl) ho) cs_L_134 ⟨rfl, rfl⟩ ⟨(Nat.le_of_ble_eq_true rfl), (Nat.le_of_ble_eq_true rfl)⟩ rfl hl.1 rfl (Nat.le_of_ble_eq_true rfl) ⟨by show _ ≤ 396424; omega, by show _ ≤ 7906833; omega⟩ dL_law_546) (fun r1 M1 H locs hR hI => ?_)
  obtain ⟨e1, T1, f1, h, ho, hv, hd⟩ := lw_w h ho hd hR
  refine lv_istore (lv' := [(6, .int r1), (0, .ref b), (1, .ref (ad 0 0)), (2, .ref (ae 0 0)), (3, .ref oa), (4, .ref da), (5, .int (nI i))]) hx hb dL_law_549 hl (by decide) rfl (fun ls hl => ?_)
  refine lv_aload_n hx hb dL_law_551 rfl (lv_at hl 3 rfl) ?_
  refine lv_aload_n hx hb dL_law_552 rfl (lv_at hl 1 rfl) ?_
  refine lv_iload hx hb dL_law_553 (lv_at hl 6 rfl) ?_
  refine lv_iconst (v := nI 1) hx hb dL_law_555 (by decide) ?_
  refine lv_iadd hx hb dL_law_556 ?_
  refine hw_ti (nI_add _ _) ?_
  refine lw_sld hx hb hX hbl hbA hL hI (j := i + 1) (by first | rfl | exact nI_add _ _ | exact nI_1 _) (by omega) dL_law_557 ?_
  refine lv_aload_n hx hb dL_law_558 rfl (lv_at hl 1 rfl) ?_
  refine lv_iload hx hb dL_law_559 (lv_at hl 6 rfl) ?_
  refine lv_iconst (v := nI 2) hx hb dL_law_561 (by decide) ?_
  refine lv_iadd hx hb dL_law_562 ?_
  refine hw_ti (nI_add _ _) ?_
  refine lw_sld hx hb hX hbl hbA hL hI (j := i + 2) (by first | rfl | exact nI_add _ _ | exact nI_1 _) (by omega) dL_law_563 ?_
  have he : M1 (ae 0 0) = hr_e0 Z ae S X 0 := h.2.m 0 0 (show 0 < 4 by decide)
  refine hw_ci hI (hw_rV hx hb hml hown hts hk hI (m_X11_load l Z M1 ae S X (lw_c oa da ad) (xs (i + 1)) (xs (i + 2)) h.2 hV (lw_A h (by rw [ho]; exact fun q => by cases q) (by rw [hd]; exact fun q => by cases q))) cv_L_136 he rfl rfl ⟨rfl, rfl⟩ ⟨(Nat.le_of_ble_eq_true rfl), (Nat.le_of_ble_eq_true rfl)⟩ rfl hl.1 rfl (Nat.le_of_ble_eq_true rfl) ⟨by show _ ≤ 396424; omega, by show _ ≤ 7906833; omega⟩ dL_law_564) (fun r2 M2 H locs hR hI => ?_)
  clear he
  obtain ⟨ae1, X1, e0, h, ho, hd, ht, hq⟩ := lw_r h ho hd hR
  have hS : hv_ok (st_load S (xs (i + 1)) (xs (i + 2))).2.2 := hk_load hV (xs (i + 1)) (xs (i + 2))
  have hc : (st_load S (xs (i + 1)) (xs (i + 2))).1 ≤ 3 := hc_load S (xs (i + 1)) (xs (i + 2))
  refine lv_istore (lv' := [(7, .int r2), (6, .int r1), (0, .ref b), (1, .ref (ad 0 0)), (2, .ref (ae 0 0)), (3, .ref oa), (4, .ref da), (5, .int (nI i))]) hx hb dL_law_567 hl (by decide) rfl (fun ls hl => ?_)
  refine lv_aload_n hx hb dL_law_569 rfl (lv_at hl 4 rfl) ?_
  have he : M2 (ae 0 0) = hr_e0 Z ae1 (st_load S (xs (i + 1)) (xs (i + 2))).2.2 X1 0 := by rw [← e0]; exact h.2.m 0 0 (show 0 < 4 by decide)
  refine hw_ci hI (hw_rV hx hb hml hown hts hk hI (m_X11_thrown l Z M2 (ae 0 0) _ _ _ _ _ _ he) cv_L_115 he rfl rfl ⟨rfl, rfl⟩ ⟨(Nat.le_of_ble_eq_true rfl), (Nat.le_of_ble_eq_true rfl)⟩ rfl hl.1 rfl (Nat.le_of_ble_eq_true rfl) ⟨by show _ ≤ 396424; omega, by show _ ≤ 7906833; omega⟩ dL_law_570) (fun r3 M3 H locs hR hI => ?_)
  obtain ⟨e3, rfl⟩ := hR
  refine lv_iload hx hb dL_law_573 (lv_at hl 1 rfl) ?_
  refine lv_icmp_eq (tgt := 580) hx hb dL_law_575 (by decide) (fun _ => ?_) (fun hc => absurd (e3.symm.trans (ht.trans e1)) hc)
  refine lv_iload hx hb dL_law_580 (lv_at hl 1 rfl) ?_
  refine lv_if_ne (tgt := 597) hx hb dL_law_582 (by decide) (fun c582 => ?_) (fun c582 => ?_)
  · refine lv_goto (tgt := 2013) hx hb dL_law_597 (by decide) ?_
    exact K M2 H locs ae1 (st_load S (xs (i + 1)) (xs (i + 2))).2.2 _ _ ls hI e0 ⟨T1, X1, f1, g, h, hS, ho, hd⟩ (lv_sub hl [2, 3, 4, 5, 6, 7] rfl) (by omega) (by omega)
  · have o0 : (st_load S (xs (i + 1)) (xs (i + 2))).1 = 0 := (hc_0 hc).mp (e1.trans c582)
    have hv0 := hv o0
    have hq0 := hq o0
    refine lv_aload_n hx hb dL_law_585 rfl (lv_at hl 5 rfl) ?_
    refine lv_iconst (v := nI 0) hx hb dL_law_586 (by decide) ?_
    refine hw_lald hx hb hk hI ho (j := 0) rfl (by omega) (by decide) dL_law_587 ?_
    refine lv_iload hx hb dL_law_588 (lv_at hl 0 rfl) ?_
    refine lv_i2l (v := r2.toInt64) hx hb dL_law_590 rfl ?_
    refine W.lcmp hx hb dL_law_591 ?_
    refine lv_if_eq (tgt := 597) hx hb dL_law_592 (by decide) (fun _ => ?_) (fun hc => absurd ((lg_cmp_eq _ _).mpr (hv0.trans (congrArg (fun x => x.toInt64) hq0))) hc)
    refine lv_goto (tgt := 2013) hx hb dL_law_597 (by decide) ?_
    exact K M2 H locs ae1 (st_load S (xs (i + 1)) (xs (i + 2))).2.2 _ _ ls hI e0 ⟨T1, X1, f1, g, h, hS, ho, hd⟩ (lv_sub hl [2, 3, 4, 5, 6, 7] rfl) (by omega) (by omega)

set_option maxHeartbeats 4000000 in
set_option maxRecDepth 100000 in
theorem lc_6 {p : Program} {l : Launch} {e : Env} {s : State} {m : MethodId} {below : List Frame} {meth : Method} {c : Code} {H : Heap} {locs : List Loc} {cells slots : Nat} {Q : State → Prop} {ls : Array Slot} {Z : hw_Z} {M : hw_M} {b L i oa da : Nat} {xs : Nat → Int32} {ad ae : hp_ad} {S : hs_S} (hst : l.stackTraces = false) (C : lw_cx p s m c Z b L xs) (hI : hw_iv Z s M H locs) (hO : lw_ok Z M oa da ad ae S) (hl : lv_has ls 9 [(0, .ref b), (1, .ref (ad 0 0)), (2, .ref (ae 0 0)), (3, .ref oa), (4, .ref da), (5, .int (nI i))]) (hi : i + 5 ≤ L) (hc9 : cells + 770 ≤ 396424) (hs9 : slots + 15400 ≤ 7906833)
    (K : ∀ (M1 : hw_M) (H1 : Heap) (locs1 : List Loc) (ae1 : hp_ad) (S1 : hs_S) (cells1 slots1 : Nat) (ls1 : Array Slot), hw_iv Z s M1 H1 locs1 → ae1 0 0 = ae 0 0 → lw_ok Z M1 oa da ad ae1 S1 → lv_has ls1 9 [(0, .ref b), (1, .ref (ad 0 0)), (2, .ref (ae 0 0)), (3, .ref oa), (4, .ref da), (5, .int (nI i))] → cells1 ≤ cells + 770 → slots1 ≤ slots + 15400 → W p l e room_1 s m #[Value.ref b] below meth c H1 locs1 cells1 slots1 Q (F0 m 2013 ls1 [])) :
    W p l e room_1 s m #[Value.ref b] below meth c H locs cells slots Q (F0 m 600 ls []) := by
  obtain ⟨hx, hb, hml, hown, hts, hk, hX, hbl, hbA, hL⟩ := C
  obtain ⟨T, X, f, g, h, hV, ho, hd⟩ := hO
  refine lv_aload_n hx hb dL_law_600 rfl (lv_at hl 1 rfl) ?_
  refine lv_aload_n hx hb dL_law_601 rfl (lv_at hl 0 rfl) ?_
  refine lv_iload hx hb dL_law_602 (lv_at hl 5 rfl) ?_
  refine lv_iconst (v := nI 1) hx hb dL_law_604 (by decide) ?_
  refine lv_iadd hx hb dL_law_605 ?_
  refine hw_ti (nI_add _ _) ?_
  refine lw_sld hx hb hX hbl hbA hL hI (j := i + 1) (by first | rfl | exact nI_add _ _ | exact nI_1 _) (by omega) dL_law_606 ?_
  refine lv_aload_n hx hb dL_law_607 rfl (lv_at hl 3 rfl) ?_
  refine hw_ci hI (hw_rSH hx hb hml hown hts hk hI (m_L_unload l hst Z M ad S T (lw_b oa da ae S X) oa f (xs (i + 1)) h.1 hV.b (Or.inl rfl) ho) cs_L_137 ⟨rfl, rfl⟩ ⟨(Nat.le_of_ble_eq_true rfl), (Nat.le_of_ble_eq_true rfl)⟩ rfl hl.1 rfl (Nat.le_of_ble_eq_true rfl) ⟨by show _ ≤ 396424; omega, by show _ ≤ 7906833; omega⟩ dL_law_608) (fun r1 M1 H locs hR hI => ?_)
  obtain ⟨e1, T1, f1, h, ho, hv, hd⟩ := lw_w h ho hd hR
  refine lv_istore (lv' := [(6, .int r1), (0, .ref b), (1, .ref (ad 0 0)), (2, .ref (ae 0 0)), (3, .ref oa), (4, .ref da), (5, .int (nI i))]) hx hb dL_law_611 hl (by decide) rfl (fun ls hl => ?_)
  refine lv_aload_n hx hb dL_law_613 rfl (lv_at hl 3 rfl) ?_
  refine lv_aload_n hx hb dL_law_614 rfl (lv_at hl 1 rfl) ?_
  refine lv_iload hx hb dL_law_615 (lv_at hl 6 rfl) ?_
  refine lv_iconst (v := nI 1) hx hb dL_law_617 (by decide) ?_
  refine lv_iadd hx hb dL_law_618 ?_
  refine hw_ti (nI_add _ _) ?_
  refine lw_sld hx hb hX hbl hbA hL hI (j := i + 1) (by first | rfl | exact nI_add _ _ | exact nI_1 _) (by omega) dL_law_619 ?_
  have he : M1 (ae 0 0) = hr_e0 Z ae S X 0 := h.2.m 0 0 (show 0 < 4 by decide)
  refine hw_ci hI (hw_rV hx hb hml hown hts hk hI (m_X11_unload l Z M1 ae S X (lw_c oa da ad) (xs (i + 1)) h.2 hV (lw_A h (by rw [ho]; exact fun q => by cases q) (by rw [hd]; exact fun q => by cases q))) cv_L_140 he rfl rfl ⟨rfl, rfl⟩ ⟨(Nat.le_of_ble_eq_true rfl), (Nat.le_of_ble_eq_true rfl)⟩ rfl hl.1 rfl (Nat.le_of_ble_eq_true rfl) ⟨by show _ ≤ 396424; omega, by show _ ≤ 7906833; omega⟩ dL_law_620) (fun r2 M2 H locs hR hI => ?_)
  clear he
  obtain ⟨ae1, X1, e0, h, ho, hd, ht, hq⟩ := lw_r h ho hd hR
  have hS : hv_ok (st_unload S (xs (i + 1))).2.2 := hk_unload hV (xs (i + 1))
  have hc : (st_unload S (xs (i + 1))).1 ≤ 3 := hc_unload S (xs (i + 1))
  refine lv_istore (lv' := [(7, .int r2), (6, .int r1), (0, .ref b), (1, .ref (ad 0 0)), (2, .ref (ae 0 0)), (3, .ref oa), (4, .ref da), (5, .int (nI i))]) hx hb dL_law_623 hl (by decide) rfl (fun ls hl => ?_)
  refine lv_aload_n hx hb dL_law_625 rfl (lv_at hl 4 rfl) ?_
  have he : M2 (ae 0 0) = hr_e0 Z ae1 (st_unload S (xs (i + 1))).2.2 X1 0 := by rw [← e0]; exact h.2.m 0 0 (show 0 < 4 by decide)
  refine hw_ci hI (hw_rV hx hb hml hown hts hk hI (m_X11_thrown l Z M2 (ae 0 0) _ _ _ _ _ _ he) cv_L_115 he rfl rfl ⟨rfl, rfl⟩ ⟨(Nat.le_of_ble_eq_true rfl), (Nat.le_of_ble_eq_true rfl)⟩ rfl hl.1 rfl (Nat.le_of_ble_eq_true rfl) ⟨by show _ ≤ 396424; omega, by show _ ≤ 7906833; omega⟩ dL_law_626) (fun r3 M3 H locs hR hI => ?_)
  obtain ⟨e3, rfl⟩ := hR
  refine lv_iload hx hb dL_law_629 (lv_at hl 1 rfl) ?_
  refine lv_icmp_eq (tgt := 636) hx hb dL_law_631 (by decide) (fun _ => ?_) (fun hc => absurd (e3.symm.trans (ht.trans e1)) hc)
  refine lv_iload hx hb dL_law_636 (lv_at hl 1 rfl) ?_
  refine lv_if_ne (tgt := 653) hx hb dL_law_638 (by decide) (fun c638 => ?_) (fun c638 => ?_)
  · refine lv_goto (tgt := 2013) hx hb dL_law_653 (by decide) ?_
    exact K M2 H locs ae1 (st_unload S (xs (i + 1))).2.2 _ _ ls hI e0 ⟨T1, X1, f1, g, h, hS, ho, hd⟩ (lv_sub hl [2, 3, 4, 5, 6, 7] rfl) (by omega) (by omega)
  · have o0 : (st_unload S (xs (i + 1))).1 = 0 := (hc_0 hc).mp (e1.trans c638)
    have hv0 := hv o0
    have hq0 := hq o0
    refine lv_aload_n hx hb dL_law_641 rfl (lv_at hl 5 rfl) ?_
    refine lv_iconst (v := nI 0) hx hb dL_law_642 (by decide) ?_
    refine hw_lald hx hb hk hI ho (j := 0) rfl (by omega) (by decide) dL_law_643 ?_
    refine lv_iload hx hb dL_law_644 (lv_at hl 0 rfl) ?_
    refine lv_i2l (v := r2.toInt64) hx hb dL_law_646 rfl ?_
    refine W.lcmp hx hb dL_law_647 ?_
    refine lv_if_eq (tgt := 653) hx hb dL_law_648 (by decide) (fun _ => ?_) (fun hc => absurd ((lg_cmp_eq _ _).mpr (hv0.trans (congrArg (fun x => x.toInt64) hq0))) hc)
    refine lv_goto (tgt := 2013) hx hb dL_law_653 (by decide) ?_
    exact K M2 H locs ae1 (st_unload S (xs (i + 1))).2.2 _ _ ls hI e0 ⟨T1, X1, f1, g, h, hS, ho, hd⟩ (lv_sub hl [2, 3, 4, 5, 6, 7] rfl) (by omega) (by omega)

set_option maxHeartbeats 4000000 in
set_option maxRecDepth 100000 in
theorem lc_7 {p : Program} {l : Launch} {e : Env} {s : State} {m : MethodId} {below : List Frame} {meth : Method} {c : Code} {H : Heap} {locs : List Loc} {cells slots : Nat} {Q : State → Prop} {ls : Array Slot} {Z : hw_Z} {M : hw_M} {b L i oa da : Nat} {xs : Nat → Int32} {ad ae : hp_ad} {S : hs_S} (hst : l.stackTraces = false) (C : lw_cx p s m c Z b L xs) (hI : hw_iv Z s M H locs) (hO : lw_ok Z M oa da ad ae S) (hl : lv_has ls 9 [(0, .ref b), (1, .ref (ad 0 0)), (2, .ref (ae 0 0)), (3, .ref oa), (4, .ref da), (5, .int (nI i))]) (hi : i + 5 ≤ L) (hc9 : cells + 770 ≤ 396424) (hs9 : slots + 15400 ≤ 7906833)
    (K : ∀ (M1 : hw_M) (H1 : Heap) (locs1 : List Loc) (ae1 : hp_ad) (S1 : hs_S) (cells1 slots1 : Nat) (ls1 : Array Slot), hw_iv Z s M1 H1 locs1 → ae1 0 0 = ae 0 0 → lw_ok Z M1 oa da ad ae1 S1 → lv_has ls1 9 [(0, .ref b), (1, .ref (ad 0 0)), (2, .ref (ae 0 0)), (3, .ref oa), (4, .ref da), (5, .int (nI i))] → cells1 ≤ cells + 770 → slots1 ≤ slots + 15400 → W p l e room_1 s m #[Value.ref b] below meth c H1 locs1 cells1 slots1 Q (F0 m 2013 ls1 [])) :
    W p l e room_1 s m #[Value.ref b] below meth c H locs cells slots Q (F0 m 656 ls []) := by
  obtain ⟨hx, hb, hml, hown, hts, hk, hX, hbl, hbA, hL⟩ := C
  obtain ⟨T, X, f, g, h, hV, ho, hd⟩ := hO
  refine lv_aload_n hx hb dL_law_656 rfl (lv_at hl 1 rfl) ?_
  refine lv_aload_n hx hb dL_law_657 rfl (lv_at hl 0 rfl) ?_
  refine lv_iload hx hb dL_law_658 (lv_at hl 5 rfl) ?_
  refine lv_iconst (v := nI 1) hx hb dL_law_660 (by decide) ?_
  refine lv_iadd hx hb dL_law_661 ?_
  refine hw_ti (nI_add _ _) ?_
  refine lw_sld hx hb hX hbl hbA hL hI (j := i + 1) (by first | rfl | exact nI_add _ _ | exact nI_1 _) (by omega) dL_law_662 ?_
  refine lv_aload_n hx hb dL_law_663 rfl (lv_at hl 3 rfl) ?_
  refine hw_ci hI (hw_rSH hx hb hml hown hts hk hI (m_L_clean l hst Z M ad S T (lw_b oa da ae S X) oa f (xs (i + 1)) h.1 hV.b (Or.inl rfl) ho) cs_L_141 ⟨rfl, rfl⟩ ⟨(Nat.le_of_ble_eq_true rfl), (Nat.le_of_ble_eq_true rfl)⟩ rfl hl.1 rfl (Nat.le_of_ble_eq_true rfl) ⟨by show _ ≤ 396424; omega, by show _ ≤ 7906833; omega⟩ dL_law_664) (fun r1 M1 H locs hR hI => ?_)
  obtain ⟨e1, T1, f1, h, ho, hv, hd⟩ := lw_w h ho hd hR
  refine lv_istore (lv' := [(6, .int r1), (0, .ref b), (1, .ref (ad 0 0)), (2, .ref (ae 0 0)), (3, .ref oa), (4, .ref da), (5, .int (nI i))]) hx hb dL_law_667 hl (by decide) rfl (fun ls hl => ?_)
  refine lv_aload_n hx hb dL_law_669 rfl (lv_at hl 3 rfl) ?_
  refine lv_aload_n hx hb dL_law_670 rfl (lv_at hl 1 rfl) ?_
  refine lv_iload hx hb dL_law_671 (lv_at hl 6 rfl) ?_
  refine lv_iconst (v := nI 1) hx hb dL_law_673 (by decide) ?_
  refine lv_iadd hx hb dL_law_674 ?_
  refine hw_ti (nI_add _ _) ?_
  refine lw_sld hx hb hX hbl hbA hL hI (j := i + 1) (by first | rfl | exact nI_add _ _ | exact nI_1 _) (by omega) dL_law_675 ?_
  have he : M1 (ae 0 0) = hr_e0 Z ae S X 0 := h.2.m 0 0 (show 0 < 4 by decide)
  refine hw_ci hI (hw_rV hx hb hml hown hts hk hI (m_X11_clean l Z M1 ae S X (lw_c oa da ad) (xs (i + 1)) h.2 hV (lw_A h (by rw [ho]; exact fun q => by cases q) (by rw [hd]; exact fun q => by cases q))) cv_L_143 he rfl rfl ⟨rfl, rfl⟩ ⟨(Nat.le_of_ble_eq_true rfl), (Nat.le_of_ble_eq_true rfl)⟩ rfl hl.1 rfl (Nat.le_of_ble_eq_true rfl) ⟨by show _ ≤ 396424; omega, by show _ ≤ 7906833; omega⟩ dL_law_676) (fun r2 M2 H locs hR hI => ?_)
  clear he
  obtain ⟨ae1, X1, e0, h, ho, hd, ht, hq⟩ := lw_r h ho hd hR
  have hS : hv_ok (st_clean S (xs (i + 1))).2.2 := hk_clean hV (xs (i + 1))
  have hc : (st_clean S (xs (i + 1))).1 ≤ 3 := hc_clean S (xs (i + 1))
  refine lv_istore (lv' := [(7, .int r2), (6, .int r1), (0, .ref b), (1, .ref (ad 0 0)), (2, .ref (ae 0 0)), (3, .ref oa), (4, .ref da), (5, .int (nI i))]) hx hb dL_law_679 hl (by decide) rfl (fun ls hl => ?_)
  refine lv_aload_n hx hb dL_law_681 rfl (lv_at hl 4 rfl) ?_
  have he : M2 (ae 0 0) = hr_e0 Z ae1 (st_clean S (xs (i + 1))).2.2 X1 0 := by rw [← e0]; exact h.2.m 0 0 (show 0 < 4 by decide)
  refine hw_ci hI (hw_rV hx hb hml hown hts hk hI (m_X11_thrown l Z M2 (ae 0 0) _ _ _ _ _ _ he) cv_L_115 he rfl rfl ⟨rfl, rfl⟩ ⟨(Nat.le_of_ble_eq_true rfl), (Nat.le_of_ble_eq_true rfl)⟩ rfl hl.1 rfl (Nat.le_of_ble_eq_true rfl) ⟨by show _ ≤ 396424; omega, by show _ ≤ 7906833; omega⟩ dL_law_682) (fun r3 M3 H locs hR hI => ?_)
  obtain ⟨e3, rfl⟩ := hR
  refine lv_iload hx hb dL_law_685 (lv_at hl 1 rfl) ?_
  refine lv_icmp_eq (tgt := 692) hx hb dL_law_687 (by decide) (fun _ => ?_) (fun hc => absurd (e3.symm.trans (ht.trans e1)) hc)
  refine lv_iload hx hb dL_law_692 (lv_at hl 1 rfl) ?_
  refine lv_if_ne (tgt := 709) hx hb dL_law_694 (by decide) (fun c694 => ?_) (fun c694 => ?_)
  · refine lv_goto (tgt := 2013) hx hb dL_law_709 (by decide) ?_
    exact K M2 H locs ae1 (st_clean S (xs (i + 1))).2.2 _ _ ls hI e0 ⟨T1, X1, f1, g, h, hS, ho, hd⟩ (lv_sub hl [2, 3, 4, 5, 6, 7] rfl) (by omega) (by omega)
  · have o0 : (st_clean S (xs (i + 1))).1 = 0 := (hc_0 hc).mp (e1.trans c694)
    have hv0 := hv o0
    have hq0 := hq o0
    refine lv_aload_n hx hb dL_law_697 rfl (lv_at hl 5 rfl) ?_
    refine lv_iconst (v := nI 0) hx hb dL_law_698 (by decide) ?_
    refine hw_lald hx hb hk hI ho (j := 0) rfl (by omega) (by decide) dL_law_699 ?_
    refine lv_iload hx hb dL_law_700 (lv_at hl 0 rfl) ?_
    refine lv_i2l (v := r2.toInt64) hx hb dL_law_702 rfl ?_
    refine W.lcmp hx hb dL_law_703 ?_
    refine lv_if_eq (tgt := 709) hx hb dL_law_704 (by decide) (fun _ => ?_) (fun hc => absurd ((lg_cmp_eq _ _).mpr (hv0.trans (congrArg (fun x => x.toInt64) hq0))) hc)
    refine lv_goto (tgt := 2013) hx hb dL_law_709 (by decide) ?_
    exact K M2 H locs ae1 (st_clean S (xs (i + 1))).2.2 _ _ ls hI e0 ⟨T1, X1, f1, g, h, hS, ho, hd⟩ (lv_sub hl [2, 3, 4, 5, 6, 7] rfl) (by omega) (by omega)

set_option maxHeartbeats 4000000 in
set_option maxRecDepth 100000 in
theorem lc_8 {p : Program} {l : Launch} {e : Env} {s : State} {m : MethodId} {below : List Frame} {meth : Method} {c : Code} {H : Heap} {locs : List Loc} {cells slots : Nat} {Q : State → Prop} {ls : Array Slot} {Z : hw_Z} {M : hw_M} {b L i oa da : Nat} {xs : Nat → Int32} {ad ae : hp_ad} {S : hs_S} (hst : l.stackTraces = false) (C : lw_cx p s m c Z b L xs) (hI : hw_iv Z s M H locs) (hO : lw_ok Z M oa da ad ae S) (hl : lv_has ls 9 [(0, .ref b), (1, .ref (ad 0 0)), (2, .ref (ae 0 0)), (3, .ref oa), (4, .ref da), (5, .int (nI i))]) (hi : i + 5 ≤ L) (hc9 : cells + 770 ≤ 396424) (hs9 : slots + 15400 ≤ 7906833)
    (K : ∀ (M1 : hw_M) (H1 : Heap) (locs1 : List Loc) (ae1 : hp_ad) (S1 : hs_S) (cells1 slots1 : Nat) (ls1 : Array Slot), hw_iv Z s M1 H1 locs1 → ae1 0 0 = ae 0 0 → lw_ok Z M1 oa da ad ae1 S1 → lv_has ls1 9 [(0, .ref b), (1, .ref (ad 0 0)), (2, .ref (ae 0 0)), (3, .ref oa), (4, .ref da), (5, .int (nI i))] → cells1 ≤ cells + 770 → slots1 ≤ slots + 15400 → W p l e room_1 s m #[Value.ref b] below meth c H1 locs1 cells1 slots1 Q (F0 m 2013 ls1 [])) :
    W p l e room_1 s m #[Value.ref b] below meth c H locs cells slots Q (F0 m 712 ls []) := by
  obtain ⟨hx, hb, hml, hown, hts, hk, hX, hbl, hbA, hL⟩ := C
  obtain ⟨T, X, f, g, h, hV, ho, hd⟩ := hO
  refine lv_aload_n hx hb dL_law_712 rfl (lv_at hl 1 rfl) ?_
  refine lv_aload_n hx hb dL_law_713 rfl (lv_at hl 0 rfl) ?_
  refine lv_iload hx hb dL_law_714 (lv_at hl 5 rfl) ?_
  refine lv_iconst (v := nI 1) hx hb dL_law_716 (by decide) ?_
  refine lv_iadd hx hb dL_law_717 ?_
  refine hw_ti (nI_add _ _) ?_
  refine lw_sld hx hb hX hbl hbA hL hI (j := i + 1) (by first | rfl | exact nI_add _ _ | exact nI_1 _) (by omega) dL_law_718 ?_
  refine lv_aload_n hx hb dL_law_719 rfl (lv_at hl 0 rfl) ?_
  refine lv_iload hx hb dL_law_720 (lv_at hl 5 rfl) ?_
  refine lv_iconst (v := nI 2) hx hb dL_law_722 (by decide) ?_
  refine lv_iadd hx hb dL_law_723 ?_
  refine hw_ti (nI_add _ _) ?_
  refine lw_sld hx hb hX hbl hbA hL hI (j := i + 2) (by first | rfl | exact nI_add _ _ | exact nI_1 _) (by omega) dL_law_724 ?_
  refine lv_aload_n hx hb dL_law_725 rfl (lv_at hl 0 rfl) ?_
  refine lv_iload hx hb dL_law_726 (lv_at hl 5 rfl) ?_
  refine lv_iconst (v := nI 3) hx hb dL_law_728 (by decide) ?_
  refine lv_iadd hx hb dL_law_729 ?_
  refine hw_ti (nI_add _ _) ?_
  refine lw_sld hx hb hX hbl hbA hL hI (j := i + 3) (by first | rfl | exact nI_add _ _ | exact nI_1 _) (by omega) dL_law_730 ?_
  refine lv_aload_n hx hb dL_law_731 rfl (lv_at hl 0 rfl) ?_
  refine lv_iload hx hb dL_law_732 (lv_at hl 5 rfl) ?_
  refine lv_iconst (v := nI 4) hx hb dL_law_734 (by decide) ?_
  refine lv_iadd hx hb dL_law_735 ?_
  refine hw_ti (nI_add _ _) ?_
  refine lw_sld hx hb hX hbl hbA hL hI (j := i + 4) (by first | rfl | exact nI_add _ _ | exact nI_1 _) (by omega) dL_law_736 ?_
  refine lv_aload_n hx hb dL_law_737 rfl (lv_at hl 3 rfl) ?_
  refine hw_ci hI (hw_rSH hx hb hml hown hts hk hI (m_L_start l hst Z M ad S T (lw_b oa da ae S X) oa f (xs (i + 1)) (xs (i + 2)) (xs (i + 3)) (xs (i + 4)) h.1 hV.b (Or.inl rfl) ho) cs_L_144 ⟨rfl, rfl⟩ ⟨(Nat.le_of_ble_eq_true rfl), (Nat.le_of_ble_eq_true rfl)⟩ rfl hl.1 rfl (Nat.le_of_ble_eq_true rfl) ⟨by show _ ≤ 396424; omega, by show _ ≤ 7906833; omega⟩ dL_law_738) (fun r1 M1 H locs hR hI => ?_)
  obtain ⟨e1, T1, f1, h, ho, hv, hd⟩ := lw_w h ho hd hR
  refine lv_istore (lv' := [(6, .int r1), (0, .ref b), (1, .ref (ad 0 0)), (2, .ref (ae 0 0)), (3, .ref oa), (4, .ref da), (5, .int (nI i))]) hx hb dL_law_741 hl (by decide) rfl (fun ls hl => ?_)
  refine lv_aload_n hx hb dL_law_743 rfl (lv_at hl 3 rfl) ?_
  refine lv_aload_n hx hb dL_law_744 rfl (lv_at hl 1 rfl) ?_
  refine lv_iload hx hb dL_law_745 (lv_at hl 6 rfl) ?_
  refine lv_iconst (v := nI 1) hx hb dL_law_747 (by decide) ?_
  refine lv_iadd hx hb dL_law_748 ?_
  refine hw_ti (nI_add _ _) ?_
  refine lw_sld hx hb hX hbl hbA hL hI (j := i + 1) (by first | rfl | exact nI_add _ _ | exact nI_1 _) (by omega) dL_law_749 ?_
  refine lv_aload_n hx hb dL_law_750 rfl (lv_at hl 1 rfl) ?_
  refine lv_iload hx hb dL_law_751 (lv_at hl 6 rfl) ?_
  refine lv_iconst (v := nI 2) hx hb dL_law_753 (by decide) ?_
  refine lv_iadd hx hb dL_law_754 ?_
  refine hw_ti (nI_add _ _) ?_
  refine lw_sld hx hb hX hbl hbA hL hI (j := i + 2) (by first | rfl | exact nI_add _ _ | exact nI_1 _) (by omega) dL_law_755 ?_
  refine lv_aload_n hx hb dL_law_756 rfl (lv_at hl 1 rfl) ?_
  refine lv_iload hx hb dL_law_757 (lv_at hl 6 rfl) ?_
  refine lv_iconst (v := nI 3) hx hb dL_law_759 (by decide) ?_
  refine lv_iadd hx hb dL_law_760 ?_
  refine hw_ti (nI_add _ _) ?_
  refine lw_sld hx hb hX hbl hbA hL hI (j := i + 3) (by first | rfl | exact nI_add _ _ | exact nI_1 _) (by omega) dL_law_761 ?_
  refine lv_aload_n hx hb dL_law_762 rfl (lv_at hl 1 rfl) ?_
  refine lv_iload hx hb dL_law_763 (lv_at hl 6 rfl) ?_
  refine lv_iconst (v := nI 4) hx hb dL_law_765 (by decide) ?_
  refine lv_iadd hx hb dL_law_766 ?_
  refine hw_ti (nI_add _ _) ?_
  refine lw_sld hx hb hX hbl hbA hL hI (j := i + 4) (by first | rfl | exact nI_add _ _ | exact nI_1 _) (by omega) dL_law_767 ?_
  have he : M1 (ae 0 0) = hr_e0 Z ae S X 0 := h.2.m 0 0 (show 0 < 4 by decide)
  refine hw_ci hI (hw_rV hx hb hml hown hts hk hI (m_X11_start l Z M1 ae S X (lw_c oa da ad) (xs (i + 1)) (xs (i + 2)) (xs (i + 3)) (xs (i + 4)) h.2 hV (lw_A h (by rw [ho]; exact fun q => by cases q) (by rw [hd]; exact fun q => by cases q))) cv_L_147 he rfl rfl ⟨rfl, rfl⟩ ⟨(Nat.le_of_ble_eq_true rfl), (Nat.le_of_ble_eq_true rfl)⟩ rfl hl.1 rfl (Nat.le_of_ble_eq_true rfl) ⟨by show _ ≤ 396424; omega, by show _ ≤ 7906833; omega⟩ dL_law_768) (fun r2 M2 H locs hR hI => ?_)
  clear he
  obtain ⟨ae1, X1, e0, h, ho, hd, ht, hq⟩ := lw_r h ho hd hR
  have hS : hv_ok (st_start S (xs (i + 1)) (xs (i + 2)) (xs (i + 3)) (xs (i + 4))).2.2 := hk_start hV (xs (i + 1)) (xs (i + 2)) (xs (i + 3)) (xs (i + 4))
  have hc : (st_start S (xs (i + 1)) (xs (i + 2)) (xs (i + 3)) (xs (i + 4))).1 ≤ 3 := hc_start S (xs (i + 1)) (xs (i + 2)) (xs (i + 3)) (xs (i + 4))
  refine lv_istore (lv' := [(7, .int r2), (6, .int r1), (0, .ref b), (1, .ref (ad 0 0)), (2, .ref (ae 0 0)), (3, .ref oa), (4, .ref da), (5, .int (nI i))]) hx hb dL_law_771 hl (by decide) rfl (fun ls hl => ?_)
  refine lv_aload_n hx hb dL_law_773 rfl (lv_at hl 4 rfl) ?_
  have he : M2 (ae 0 0) = hr_e0 Z ae1 (st_start S (xs (i + 1)) (xs (i + 2)) (xs (i + 3)) (xs (i + 4))).2.2 X1 0 := by rw [← e0]; exact h.2.m 0 0 (show 0 < 4 by decide)
  refine hw_ci hI (hw_rV hx hb hml hown hts hk hI (m_X11_thrown l Z M2 (ae 0 0) _ _ _ _ _ _ he) cv_L_115 he rfl rfl ⟨rfl, rfl⟩ ⟨(Nat.le_of_ble_eq_true rfl), (Nat.le_of_ble_eq_true rfl)⟩ rfl hl.1 rfl (Nat.le_of_ble_eq_true rfl) ⟨by show _ ≤ 396424; omega, by show _ ≤ 7906833; omega⟩ dL_law_774) (fun r3 M3 H locs hR hI => ?_)
  obtain ⟨e3, rfl⟩ := hR
  refine lv_iload hx hb dL_law_777 (lv_at hl 1 rfl) ?_
  refine lv_icmp_eq (tgt := 784) hx hb dL_law_779 (by decide) (fun _ => ?_) (fun hc => absurd (e3.symm.trans (ht.trans e1)) hc)
  refine lv_iload hx hb dL_law_784 (lv_at hl 1 rfl) ?_
  refine lv_if_ne (tgt := 801) hx hb dL_law_786 (by decide) (fun c786 => ?_) (fun c786 => ?_)
  · refine lv_goto (tgt := 2013) hx hb dL_law_801 (by decide) ?_
    exact K M2 H locs ae1 (st_start S (xs (i + 1)) (xs (i + 2)) (xs (i + 3)) (xs (i + 4))).2.2 _ _ ls hI e0 ⟨T1, X1, f1, g, h, hS, ho, hd⟩ (lv_sub hl [2, 3, 4, 5, 6, 7] rfl) (by omega) (by omega)
  · have o0 : (st_start S (xs (i + 1)) (xs (i + 2)) (xs (i + 3)) (xs (i + 4))).1 = 0 := (hc_0 hc).mp (e1.trans c786)
    have hv0 := hv o0
    have hq0 := hq o0
    refine lv_aload_n hx hb dL_law_789 rfl (lv_at hl 5 rfl) ?_
    refine lv_iconst (v := nI 0) hx hb dL_law_790 (by decide) ?_
    refine hw_lald hx hb hk hI ho (j := 0) rfl (by omega) (by decide) dL_law_791 ?_
    refine lv_iload hx hb dL_law_792 (lv_at hl 0 rfl) ?_
    refine lv_i2l (v := r2.toInt64) hx hb dL_law_794 rfl ?_
    refine W.lcmp hx hb dL_law_795 ?_
    refine lv_if_eq (tgt := 801) hx hb dL_law_796 (by decide) (fun _ => ?_) (fun hc => absurd ((lg_cmp_eq _ _).mpr (hv0.trans (congrArg (fun x => x.toInt64) hq0))) hc)
    refine lv_goto (tgt := 2013) hx hb dL_law_801 (by decide) ?_
    exact K M2 H locs ae1 (st_start S (xs (i + 1)) (xs (i + 2)) (xs (i + 3)) (xs (i + 4))).2.2 _ _ ls hI e0 ⟨T1, X1, f1, g, h, hS, ho, hd⟩ (lv_sub hl [2, 3, 4, 5, 6, 7] rfl) (by omega) (by omega)

set_option maxHeartbeats 4000000 in
set_option maxRecDepth 100000 in
theorem lc_9 {p : Program} {l : Launch} {e : Env} {s : State} {m : MethodId} {below : List Frame} {meth : Method} {c : Code} {H : Heap} {locs : List Loc} {cells slots : Nat} {Q : State → Prop} {ls : Array Slot} {Z : hw_Z} {M : hw_M} {b L i oa da : Nat} {xs : Nat → Int32} {ad ae : hp_ad} {S : hs_S} (hst : l.stackTraces = false) (C : lw_cx p s m c Z b L xs) (hI : hw_iv Z s M H locs) (hO : lw_ok Z M oa da ad ae S) (hl : lv_has ls 9 [(0, .ref b), (1, .ref (ad 0 0)), (2, .ref (ae 0 0)), (3, .ref oa), (4, .ref da), (5, .int (nI i))]) (hi : i + 5 ≤ L) (hc9 : cells + 770 ≤ 396424) (hs9 : slots + 15400 ≤ 7906833)
    (K : ∀ (M1 : hw_M) (H1 : Heap) (locs1 : List Loc) (ae1 : hp_ad) (S1 : hs_S) (cells1 slots1 : Nat) (ls1 : Array Slot), hw_iv Z s M1 H1 locs1 → ae1 0 0 = ae 0 0 → lw_ok Z M1 oa da ad ae1 S1 → lv_has ls1 9 [(0, .ref b), (1, .ref (ad 0 0)), (2, .ref (ae 0 0)), (3, .ref oa), (4, .ref da), (5, .int (nI i))] → cells1 ≤ cells + 770 → slots1 ≤ slots + 15400 → W p l e room_1 s m #[Value.ref b] below meth c H1 locs1 cells1 slots1 Q (F0 m 2013 ls1 [])) :
    W p l e room_1 s m #[Value.ref b] below meth c H locs cells slots Q (F0 m 804 ls []) := by
  obtain ⟨hx, hb, hml, hown, hts, hk, hX, hbl, hbA, hL⟩ := C
  obtain ⟨T, X, f, g, h, hV, ho, hd⟩ := hO
  refine lv_aload_n hx hb dL_law_804 rfl (lv_at hl 1 rfl) ?_
  refine lv_aload_n hx hb dL_law_805 rfl (lv_at hl 0 rfl) ?_
  refine lv_iload hx hb dL_law_806 (lv_at hl 5 rfl) ?_
  refine lv_iconst (v := nI 1) hx hb dL_law_808 (by decide) ?_
  refine lv_iadd hx hb dL_law_809 ?_
  refine hw_ti (nI_add _ _) ?_
  refine lw_sld hx hb hX hbl hbA hL hI (j := i + 1) (by first | rfl | exact nI_add _ _ | exact nI_1 _) (by omega) dL_law_810 ?_
  refine lv_aload_n hx hb dL_law_811 rfl (lv_at hl 0 rfl) ?_
  refine lv_iload hx hb dL_law_812 (lv_at hl 5 rfl) ?_
  refine lv_iconst (v := nI 2) hx hb dL_law_814 (by decide) ?_
  refine lv_iadd hx hb dL_law_815 ?_
  refine hw_ti (nI_add _ _) ?_
  refine lw_sld hx hb hX hbl hbA hL hI (j := i + 2) (by first | rfl | exact nI_add _ _ | exact nI_1 _) (by omega) dL_law_816 ?_
  refine lv_aload_n hx hb dL_law_817 rfl (lv_at hl 3 rfl) ?_
  refine hw_ci hI (hw_rSH hx hb hml hown hts hk hI (m_L_grow l hst Z M ad S T (lw_b oa da ae S X) oa f (xs (i + 1)) (xs (i + 2)) h.1 hV.b (Or.inl rfl) ho) cs_L_148 ⟨rfl, rfl⟩ ⟨(Nat.le_of_ble_eq_true rfl), (Nat.le_of_ble_eq_true rfl)⟩ rfl hl.1 rfl (Nat.le_of_ble_eq_true rfl) ⟨by show _ ≤ 396424; omega, by show _ ≤ 7906833; omega⟩ dL_law_818) (fun r1 M1 H locs hR hI => ?_)
  obtain ⟨e1, T1, f1, h, ho, hv, hd⟩ := lw_w h ho hd hR
  refine lv_istore (lv' := [(6, .int r1), (0, .ref b), (1, .ref (ad 0 0)), (2, .ref (ae 0 0)), (3, .ref oa), (4, .ref da), (5, .int (nI i))]) hx hb dL_law_821 hl (by decide) rfl (fun ls hl => ?_)
  refine lv_aload_n hx hb dL_law_823 rfl (lv_at hl 3 rfl) ?_
  refine lv_aload_n hx hb dL_law_824 rfl (lv_at hl 1 rfl) ?_
  refine lv_iload hx hb dL_law_825 (lv_at hl 6 rfl) ?_
  refine lv_iconst (v := nI 1) hx hb dL_law_827 (by decide) ?_
  refine lv_iadd hx hb dL_law_828 ?_
  refine hw_ti (nI_add _ _) ?_
  refine lw_sld hx hb hX hbl hbA hL hI (j := i + 1) (by first | rfl | exact nI_add _ _ | exact nI_1 _) (by omega) dL_law_829 ?_
  refine lv_aload_n hx hb dL_law_830 rfl (lv_at hl 1 rfl) ?_
  refine lv_iload hx hb dL_law_831 (lv_at hl 6 rfl) ?_
  refine lv_iconst (v := nI 2) hx hb dL_law_833 (by decide) ?_
  refine lv_iadd hx hb dL_law_834 ?_
  refine hw_ti (nI_add _ _) ?_
  refine lw_sld hx hb hX hbl hbA hL hI (j := i + 2) (by first | rfl | exact nI_add _ _ | exact nI_1 _) (by omega) dL_law_835 ?_
  have he : M1 (ae 0 0) = hr_e0 Z ae S X 0 := h.2.m 0 0 (show 0 < 4 by decide)
  refine hw_ci hI (hw_rV hx hb hml hown hts hk hI (m_X11_grow l Z M1 ae S X (lw_c oa da ad) (xs (i + 1)) (xs (i + 2)) h.2 hV (lw_A h (by rw [ho]; exact fun q => by cases q) (by rw [hd]; exact fun q => by cases q))) cv_L_150 he rfl rfl ⟨rfl, rfl⟩ ⟨(Nat.le_of_ble_eq_true rfl), (Nat.le_of_ble_eq_true rfl)⟩ rfl hl.1 rfl (Nat.le_of_ble_eq_true rfl) ⟨by show _ ≤ 396424; omega, by show _ ≤ 7906833; omega⟩ dL_law_836) (fun r2 M2 H locs hR hI => ?_)
  clear he
  obtain ⟨ae1, X1, e0, h, ho, hd, ht, hq⟩ := lw_r h ho hd hR
  have hS : hv_ok (st_grow S (xs (i + 1)) (xs (i + 2))).2.2 := hk_grow hV (xs (i + 1)) (xs (i + 2))
  have hc : (st_grow S (xs (i + 1)) (xs (i + 2))).1 ≤ 3 := hc_grow S (xs (i + 1)) (xs (i + 2))
  refine lv_istore (lv' := [(7, .int r2), (6, .int r1), (0, .ref b), (1, .ref (ad 0 0)), (2, .ref (ae 0 0)), (3, .ref oa), (4, .ref da), (5, .int (nI i))]) hx hb dL_law_839 hl (by decide) rfl (fun ls hl => ?_)
  refine lv_aload_n hx hb dL_law_841 rfl (lv_at hl 4 rfl) ?_
  have he : M2 (ae 0 0) = hr_e0 Z ae1 (st_grow S (xs (i + 1)) (xs (i + 2))).2.2 X1 0 := by rw [← e0]; exact h.2.m 0 0 (show 0 < 4 by decide)
  refine hw_ci hI (hw_rV hx hb hml hown hts hk hI (m_X11_thrown l Z M2 (ae 0 0) _ _ _ _ _ _ he) cv_L_115 he rfl rfl ⟨rfl, rfl⟩ ⟨(Nat.le_of_ble_eq_true rfl), (Nat.le_of_ble_eq_true rfl)⟩ rfl hl.1 rfl (Nat.le_of_ble_eq_true rfl) ⟨by show _ ≤ 396424; omega, by show _ ≤ 7906833; omega⟩ dL_law_842) (fun r3 M3 H locs hR hI => ?_)
  obtain ⟨e3, rfl⟩ := hR
  refine lv_iload hx hb dL_law_845 (lv_at hl 1 rfl) ?_
  refine lv_icmp_eq (tgt := 852) hx hb dL_law_847 (by decide) (fun _ => ?_) (fun hc => absurd (e3.symm.trans (ht.trans e1)) hc)
  refine lv_iload hx hb dL_law_852 (lv_at hl 1 rfl) ?_
  refine lv_if_ne (tgt := 869) hx hb dL_law_854 (by decide) (fun c854 => ?_) (fun c854 => ?_)
  · refine lv_goto (tgt := 2013) hx hb dL_law_869 (by decide) ?_
    exact K M2 H locs ae1 (st_grow S (xs (i + 1)) (xs (i + 2))).2.2 _ _ ls hI e0 ⟨T1, X1, f1, g, h, hS, ho, hd⟩ (lv_sub hl [2, 3, 4, 5, 6, 7] rfl) (by omega) (by omega)
  · have o0 : (st_grow S (xs (i + 1)) (xs (i + 2))).1 = 0 := (hc_0 hc).mp (e1.trans c854)
    have hv0 := hv o0
    have hq0 := hq o0
    refine lv_aload_n hx hb dL_law_857 rfl (lv_at hl 5 rfl) ?_
    refine lv_iconst (v := nI 0) hx hb dL_law_858 (by decide) ?_
    refine hw_lald hx hb hk hI ho (j := 0) rfl (by omega) (by decide) dL_law_859 ?_
    refine lv_iload hx hb dL_law_860 (lv_at hl 0 rfl) ?_
    refine lv_i2l (v := r2.toInt64) hx hb dL_law_862 rfl ?_
    refine W.lcmp hx hb dL_law_863 ?_
    refine lv_if_eq (tgt := 869) hx hb dL_law_864 (by decide) (fun _ => ?_) (fun hc => absurd ((lg_cmp_eq _ _).mpr (hv0.trans (congrArg (fun x => x.toInt64) hq0))) hc)
    refine lv_goto (tgt := 2013) hx hb dL_law_869 (by decide) ?_
    exact K M2 H locs ae1 (st_grow S (xs (i + 1)) (xs (i + 2))).2.2 _ _ ls hI e0 ⟨T1, X1, f1, g, h, hS, ho, hd⟩ (lv_sub hl [2, 3, 4, 5, 6, 7] rfl) (by omega) (by omega)

set_option maxHeartbeats 4000000 in
set_option maxRecDepth 100000 in
theorem lc_10 {p : Program} {l : Launch} {e : Env} {s : State} {m : MethodId} {below : List Frame} {meth : Method} {c : Code} {H : Heap} {locs : List Loc} {cells slots : Nat} {Q : State → Prop} {ls : Array Slot} {Z : hw_Z} {M : hw_M} {b L i oa da : Nat} {xs : Nat → Int32} {ad ae : hp_ad} {S : hs_S} (hst : l.stackTraces = false) (C : lw_cx p s m c Z b L xs) (hI : hw_iv Z s M H locs) (hO : lw_ok Z M oa da ad ae S) (hl : lv_has ls 9 [(0, .ref b), (1, .ref (ad 0 0)), (2, .ref (ae 0 0)), (3, .ref oa), (4, .ref da), (5, .int (nI i))]) (hi : i + 5 ≤ L) (hc9 : cells + 770 ≤ 396424) (hs9 : slots + 15400 ≤ 7906833)
    (K : ∀ (M1 : hw_M) (H1 : Heap) (locs1 : List Loc) (ae1 : hp_ad) (S1 : hs_S) (cells1 slots1 : Nat) (ls1 : Array Slot), hw_iv Z s M1 H1 locs1 → ae1 0 0 = ae 0 0 → lw_ok Z M1 oa da ad ae1 S1 → lv_has ls1 9 [(0, .ref b), (1, .ref (ad 0 0)), (2, .ref (ae 0 0)), (3, .ref oa), (4, .ref da), (5, .int (nI i))] → cells1 ≤ cells + 770 → slots1 ≤ slots + 15400 → W p l e room_1 s m #[Value.ref b] below meth c H1 locs1 cells1 slots1 Q (F0 m 2013 ls1 [])) :
    W p l e room_1 s m #[Value.ref b] below meth c H locs cells slots Q (F0 m 872 ls []) := by
  obtain ⟨hx, hb, hml, hown, hts, hk, hX, hbl, hbA, hL⟩ := C
  obtain ⟨T, X, f, g, h, hV, ho, hd⟩ := hO
  refine lv_aload_n hx hb dL_law_872 rfl (lv_at hl 1 rfl) ?_
  refine lv_aload_n hx hb dL_law_873 rfl (lv_at hl 0 rfl) ?_
  refine lv_iload hx hb dL_law_874 (lv_at hl 5 rfl) ?_
  refine lv_iconst (v := nI 1) hx hb dL_law_876 (by decide) ?_
  refine lv_iadd hx hb dL_law_877 ?_
  refine hw_ti (nI_add _ _) ?_
  refine lw_sld hx hb hX hbl hbA hL hI (j := i + 1) (by first | rfl | exact nI_add _ _ | exact nI_1 _) (by omega) dL_law_878 ?_
  refine lv_aload_n hx hb dL_law_879 rfl (lv_at hl 3 rfl) ?_
  refine hw_ci hI (hw_rSH hx hb hml hown hts hk hI (m_L_stop l hst Z M ad S T (lw_b oa da ae S X) oa f (xs (i + 1)) h.1 hV.b (Or.inl rfl) ho) cs_L_151 ⟨rfl, rfl⟩ ⟨(Nat.le_of_ble_eq_true rfl), (Nat.le_of_ble_eq_true rfl)⟩ rfl hl.1 rfl (Nat.le_of_ble_eq_true rfl) ⟨by show _ ≤ 396424; omega, by show _ ≤ 7906833; omega⟩ dL_law_880) (fun r1 M1 H locs hR hI => ?_)
  obtain ⟨e1, T1, f1, h, ho, hv, hd⟩ := lw_w h ho hd hR
  refine lv_istore (lv' := [(6, .int r1), (0, .ref b), (1, .ref (ad 0 0)), (2, .ref (ae 0 0)), (3, .ref oa), (4, .ref da), (5, .int (nI i))]) hx hb dL_law_883 hl (by decide) rfl (fun ls hl => ?_)
  refine lv_aload_n hx hb dL_law_885 rfl (lv_at hl 3 rfl) ?_
  refine lv_aload_n hx hb dL_law_886 rfl (lv_at hl 1 rfl) ?_
  refine lv_iload hx hb dL_law_887 (lv_at hl 6 rfl) ?_
  refine lv_iconst (v := nI 1) hx hb dL_law_889 (by decide) ?_
  refine lv_iadd hx hb dL_law_890 ?_
  refine hw_ti (nI_add _ _) ?_
  refine lw_sld hx hb hX hbl hbA hL hI (j := i + 1) (by first | rfl | exact nI_add _ _ | exact nI_1 _) (by omega) dL_law_891 ?_
  have he : M1 (ae 0 0) = hr_e0 Z ae S X 0 := h.2.m 0 0 (show 0 < 4 by decide)
  refine hw_ci hI (hw_rV hx hb hml hown hts hk hI (m_X11_stop l Z M1 ae S X (lw_c oa da ad) (xs (i + 1)) h.2 hV (lw_A h (by rw [ho]; exact fun q => by cases q) (by rw [hd]; exact fun q => by cases q))) cv_L_153 he rfl rfl ⟨rfl, rfl⟩ ⟨(Nat.le_of_ble_eq_true rfl), (Nat.le_of_ble_eq_true rfl)⟩ rfl hl.1 rfl (Nat.le_of_ble_eq_true rfl) ⟨by show _ ≤ 396424; omega, by show _ ≤ 7906833; omega⟩ dL_law_892) (fun r2 M2 H locs hR hI => ?_)
  clear he
  obtain ⟨ae1, X1, e0, h, ho, hd, ht, hq⟩ := lw_r h ho hd hR
  have hS : hv_ok (st_stop S (xs (i + 1))).2.2 := hk_stop hV (xs (i + 1))
  have hc : (st_stop S (xs (i + 1))).1 ≤ 3 := hc_stop S (xs (i + 1))
  refine lv_istore (lv' := [(7, .int r2), (6, .int r1), (0, .ref b), (1, .ref (ad 0 0)), (2, .ref (ae 0 0)), (3, .ref oa), (4, .ref da), (5, .int (nI i))]) hx hb dL_law_895 hl (by decide) rfl (fun ls hl => ?_)
  refine lv_aload_n hx hb dL_law_897 rfl (lv_at hl 4 rfl) ?_
  have he : M2 (ae 0 0) = hr_e0 Z ae1 (st_stop S (xs (i + 1))).2.2 X1 0 := by rw [← e0]; exact h.2.m 0 0 (show 0 < 4 by decide)
  refine hw_ci hI (hw_rV hx hb hml hown hts hk hI (m_X11_thrown l Z M2 (ae 0 0) _ _ _ _ _ _ he) cv_L_115 he rfl rfl ⟨rfl, rfl⟩ ⟨(Nat.le_of_ble_eq_true rfl), (Nat.le_of_ble_eq_true rfl)⟩ rfl hl.1 rfl (Nat.le_of_ble_eq_true rfl) ⟨by show _ ≤ 396424; omega, by show _ ≤ 7906833; omega⟩ dL_law_898) (fun r3 M3 H locs hR hI => ?_)
  obtain ⟨e3, rfl⟩ := hR
  refine lv_iload hx hb dL_law_901 (lv_at hl 1 rfl) ?_
  refine lv_icmp_eq (tgt := 908) hx hb dL_law_903 (by decide) (fun _ => ?_) (fun hc => absurd (e3.symm.trans (ht.trans e1)) hc)
  refine lv_iload hx hb dL_law_908 (lv_at hl 1 rfl) ?_
  refine lv_if_ne (tgt := 925) hx hb dL_law_910 (by decide) (fun c910 => ?_) (fun c910 => ?_)
  · refine lv_goto (tgt := 2013) hx hb dL_law_925 (by decide) ?_
    exact K M2 H locs ae1 (st_stop S (xs (i + 1))).2.2 _ _ ls hI e0 ⟨T1, X1, f1, g, h, hS, ho, hd⟩ (lv_sub hl [2, 3, 4, 5, 6, 7] rfl) (by omega) (by omega)
  · have o0 : (st_stop S (xs (i + 1))).1 = 0 := (hc_0 hc).mp (e1.trans c910)
    have hv0 := hv o0
    have hq0 := hq o0
    refine lv_aload_n hx hb dL_law_913 rfl (lv_at hl 5 rfl) ?_
    refine lv_iconst (v := nI 0) hx hb dL_law_914 (by decide) ?_
    refine hw_lald hx hb hk hI ho (j := 0) rfl (by omega) (by decide) dL_law_915 ?_
    refine lv_iload hx hb dL_law_916 (lv_at hl 0 rfl) ?_
    refine lv_i2l (v := r2.toInt64) hx hb dL_law_918 rfl ?_
    refine W.lcmp hx hb dL_law_919 ?_
    refine lv_if_eq (tgt := 925) hx hb dL_law_920 (by decide) (fun _ => ?_) (fun hc => absurd ((lg_cmp_eq _ _).mpr (hv0.trans (congrArg (fun x => x.toInt64) hq0))) hc)
    refine lv_goto (tgt := 2013) hx hb dL_law_925 (by decide) ?_
    exact K M2 H locs ae1 (st_stop S (xs (i + 1))).2.2 _ _ ls hI e0 ⟨T1, X1, f1, g, h, hS, ho, hd⟩ (lv_sub hl [2, 3, 4, 5, 6, 7] rfl) (by omega) (by omega)

set_option maxHeartbeats 4000000 in
set_option maxRecDepth 100000 in
theorem lc_11 {p : Program} {l : Launch} {e : Env} {s : State} {m : MethodId} {below : List Frame} {meth : Method} {c : Code} {H : Heap} {locs : List Loc} {cells slots : Nat} {Q : State → Prop} {ls : Array Slot} {Z : hw_Z} {M : hw_M} {b L i oa da : Nat} {xs : Nat → Int32} {ad ae : hp_ad} {S : hs_S} (hst : l.stackTraces = false) (C : lw_cx p s m c Z b L xs) (hI : hw_iv Z s M H locs) (hO : lw_ok Z M oa da ad ae S) (hl : lv_has ls 9 [(0, .ref b), (1, .ref (ad 0 0)), (2, .ref (ae 0 0)), (3, .ref oa), (4, .ref da), (5, .int (nI i))]) (hi : i + 5 ≤ L) (hc9 : cells + 770 ≤ 396424) (hs9 : slots + 15400 ≤ 7906833)
    (K : ∀ (M1 : hw_M) (H1 : Heap) (locs1 : List Loc) (ae1 : hp_ad) (S1 : hs_S) (cells1 slots1 : Nat) (ls1 : Array Slot), hw_iv Z s M1 H1 locs1 → ae1 0 0 = ae 0 0 → lw_ok Z M1 oa da ad ae1 S1 → lv_has ls1 9 [(0, .ref b), (1, .ref (ad 0 0)), (2, .ref (ae 0 0)), (3, .ref oa), (4, .ref da), (5, .int (nI i))] → cells1 ≤ cells + 770 → slots1 ≤ slots + 15400 → W p l e room_1 s m #[Value.ref b] below meth c H1 locs1 cells1 slots1 Q (F0 m 2013 ls1 [])) :
    W p l e room_1 s m #[Value.ref b] below meth c H locs cells slots Q (F0 m 928 ls []) := by
  obtain ⟨hx, hb, hml, hown, hts, hk, hX, hbl, hbA, hL⟩ := C
  obtain ⟨T, X, f, g, h, hV, ho, hd⟩ := hO
  refine lv_aload_n hx hb dL_law_928 rfl (lv_at hl 1 rfl) ?_
  refine lv_aload_n hx hb dL_law_929 rfl (lv_at hl 0 rfl) ?_
  refine lv_iload hx hb dL_law_930 (lv_at hl 5 rfl) ?_
  refine lv_iconst (v := nI 1) hx hb dL_law_932 (by decide) ?_
  refine lv_iadd hx hb dL_law_933 ?_
  refine hw_ti (nI_add _ _) ?_
  refine lw_sld hx hb hX hbl hbA hL hI (j := i + 1) (by first | rfl | exact nI_add _ _ | exact nI_1 _) (by omega) dL_law_934 ?_
  refine lv_aload_n hx hb dL_law_935 rfl (lv_at hl 3 rfl) ?_
  refine hw_ci hI (hw_rSH hx hb hml hown hts hk hI (m_L_relieve l hst Z M ad S T (lw_b oa da ae S X) oa f (xs (i + 1)) h.1 hV.b (Or.inl rfl) ho) cs_L_154 ⟨rfl, rfl⟩ ⟨(Nat.le_of_ble_eq_true rfl), (Nat.le_of_ble_eq_true rfl)⟩ rfl hl.1 rfl (Nat.le_of_ble_eq_true rfl) ⟨by show _ ≤ 396424; omega, by show _ ≤ 7906833; omega⟩ dL_law_936) (fun r1 M1 H locs hR hI => ?_)
  obtain ⟨e1, T1, f1, h, ho, hv, hd⟩ := lw_w h ho hd hR
  refine lv_istore (lv' := [(6, .int r1), (0, .ref b), (1, .ref (ad 0 0)), (2, .ref (ae 0 0)), (3, .ref oa), (4, .ref da), (5, .int (nI i))]) hx hb dL_law_939 hl (by decide) rfl (fun ls hl => ?_)
  refine lv_aload_n hx hb dL_law_941 rfl (lv_at hl 3 rfl) ?_
  refine lv_aload_n hx hb dL_law_942 rfl (lv_at hl 1 rfl) ?_
  refine lv_iload hx hb dL_law_943 (lv_at hl 6 rfl) ?_
  refine lv_iconst (v := nI 1) hx hb dL_law_945 (by decide) ?_
  refine lv_iadd hx hb dL_law_946 ?_
  refine hw_ti (nI_add _ _) ?_
  refine lw_sld hx hb hX hbl hbA hL hI (j := i + 1) (by first | rfl | exact nI_add _ _ | exact nI_1 _) (by omega) dL_law_947 ?_
  have he : M1 (ae 0 0) = hr_e0 Z ae S X 0 := h.2.m 0 0 (show 0 < 4 by decide)
  refine hw_ci hI (hw_rV hx hb hml hown hts hk hI (m_X11_relieve l Z M1 ae S X (lw_c oa da ad) (xs (i + 1)) h.2 hV (lw_A h (by rw [ho]; exact fun q => by cases q) (by rw [hd]; exact fun q => by cases q))) cv_L_156 he rfl rfl ⟨rfl, rfl⟩ ⟨(Nat.le_of_ble_eq_true rfl), (Nat.le_of_ble_eq_true rfl)⟩ rfl hl.1 rfl (Nat.le_of_ble_eq_true rfl) ⟨by show _ ≤ 396424; omega, by show _ ≤ 7906833; omega⟩ dL_law_948) (fun r2 M2 H locs hR hI => ?_)
  clear he
  obtain ⟨ae1, X1, e0, h, ho, hd, ht, hq⟩ := lw_r h ho hd hR
  have hS : hv_ok (st_relieve S (xs (i + 1))).2.2 := hk_relieve hV (xs (i + 1))
  have hc : (st_relieve S (xs (i + 1))).1 ≤ 3 := hc_relieve S (xs (i + 1))
  refine lv_istore (lv' := [(7, .int r2), (6, .int r1), (0, .ref b), (1, .ref (ad 0 0)), (2, .ref (ae 0 0)), (3, .ref oa), (4, .ref da), (5, .int (nI i))]) hx hb dL_law_951 hl (by decide) rfl (fun ls hl => ?_)
  refine lv_aload_n hx hb dL_law_953 rfl (lv_at hl 4 rfl) ?_
  have he : M2 (ae 0 0) = hr_e0 Z ae1 (st_relieve S (xs (i + 1))).2.2 X1 0 := by rw [← e0]; exact h.2.m 0 0 (show 0 < 4 by decide)
  refine hw_ci hI (hw_rV hx hb hml hown hts hk hI (m_X11_thrown l Z M2 (ae 0 0) _ _ _ _ _ _ he) cv_L_115 he rfl rfl ⟨rfl, rfl⟩ ⟨(Nat.le_of_ble_eq_true rfl), (Nat.le_of_ble_eq_true rfl)⟩ rfl hl.1 rfl (Nat.le_of_ble_eq_true rfl) ⟨by show _ ≤ 396424; omega, by show _ ≤ 7906833; omega⟩ dL_law_954) (fun r3 M3 H locs hR hI => ?_)
  obtain ⟨e3, rfl⟩ := hR
  refine lv_iload hx hb dL_law_957 (lv_at hl 1 rfl) ?_
  refine lv_icmp_eq (tgt := 964) hx hb dL_law_959 (by decide) (fun _ => ?_) (fun hc => absurd (e3.symm.trans (ht.trans e1)) hc)
  refine lv_iload hx hb dL_law_964 (lv_at hl 1 rfl) ?_
  refine lv_if_ne (tgt := 981) hx hb dL_law_966 (by decide) (fun c966 => ?_) (fun c966 => ?_)
  · refine lv_goto (tgt := 2013) hx hb dL_law_981 (by decide) ?_
    exact K M2 H locs ae1 (st_relieve S (xs (i + 1))).2.2 _ _ ls hI e0 ⟨T1, X1, f1, g, h, hS, ho, hd⟩ (lv_sub hl [2, 3, 4, 5, 6, 7] rfl) (by omega) (by omega)
  · have o0 : (st_relieve S (xs (i + 1))).1 = 0 := (hc_0 hc).mp (e1.trans c966)
    have hv0 := hv o0
    have hq0 := hq o0
    refine lv_aload_n hx hb dL_law_969 rfl (lv_at hl 5 rfl) ?_
    refine lv_iconst (v := nI 0) hx hb dL_law_970 (by decide) ?_
    refine hw_lald hx hb hk hI ho (j := 0) rfl (by omega) (by decide) dL_law_971 ?_
    refine lv_iload hx hb dL_law_972 (lv_at hl 0 rfl) ?_
    refine lv_i2l (v := r2.toInt64) hx hb dL_law_974 rfl ?_
    refine W.lcmp hx hb dL_law_975 ?_
    refine lv_if_eq (tgt := 981) hx hb dL_law_976 (by decide) (fun _ => ?_) (fun hc => absurd ((lg_cmp_eq _ _).mpr (hv0.trans (congrArg (fun x => x.toInt64) hq0))) hc)
    refine lv_goto (tgt := 2013) hx hb dL_law_981 (by decide) ?_
    exact K M2 H locs ae1 (st_relieve S (xs (i + 1))).2.2 _ _ ls hI e0 ⟨T1, X1, f1, g, h, hS, ho, hd⟩ (lv_sub hl [2, 3, 4, 5, 6, 7] rfl) (by omega) (by omega)

set_option maxHeartbeats 4000000 in
set_option maxRecDepth 100000 in
theorem lc_12 {p : Program} {l : Launch} {e : Env} {s : State} {m : MethodId} {below : List Frame} {meth : Method} {c : Code} {H : Heap} {locs : List Loc} {cells slots : Nat} {Q : State → Prop} {ls : Array Slot} {Z : hw_Z} {M : hw_M} {b L i oa da : Nat} {xs : Nat → Int32} {ad ae : hp_ad} {S : hs_S} (hst : l.stackTraces = false) (C : lw_cx p s m c Z b L xs) (hI : hw_iv Z s M H locs) (hO : lw_ok Z M oa da ad ae S) (hl : lv_has ls 9 [(0, .ref b), (1, .ref (ad 0 0)), (2, .ref (ae 0 0)), (3, .ref oa), (4, .ref da), (5, .int (nI i))]) (hi : i + 5 ≤ L) (hc9 : cells + 770 ≤ 396424) (hs9 : slots + 15400 ≤ 7906833)
    (K : ∀ (M1 : hw_M) (H1 : Heap) (locs1 : List Loc) (ae1 : hp_ad) (S1 : hs_S) (cells1 slots1 : Nat) (ls1 : Array Slot), hw_iv Z s M1 H1 locs1 → ae1 0 0 = ae 0 0 → lw_ok Z M1 oa da ad ae1 S1 → lv_has ls1 9 [(0, .ref b), (1, .ref (ad 0 0)), (2, .ref (ae 0 0)), (3, .ref oa), (4, .ref da), (5, .int (nI i))] → cells1 ≤ cells + 770 → slots1 ≤ slots + 15400 → W p l e room_1 s m #[Value.ref b] below meth c H1 locs1 cells1 slots1 Q (F0 m 2013 ls1 [])) :
    W p l e room_1 s m #[Value.ref b] below meth c H locs cells slots Q (F0 m 984 ls []) := by
  obtain ⟨hx, hb, hml, hown, hts, hk, hX, hbl, hbA, hL⟩ := C
  obtain ⟨T, X, f, g, h, hV, ho, hd⟩ := hO
  refine lv_aload_n hx hb dL_law_984 rfl (lv_at hl 1 rfl) ?_
  refine lv_aload_n hx hb dL_law_985 rfl (lv_at hl 0 rfl) ?_
  refine lv_iload hx hb dL_law_986 (lv_at hl 5 rfl) ?_
  refine lv_iconst (v := nI 1) hx hb dL_law_988 (by decide) ?_
  refine lv_iadd hx hb dL_law_989 ?_
  refine hw_ti (nI_add _ _) ?_
  refine lw_sld hx hb hX hbl hbA hL hI (j := i + 1) (by first | rfl | exact nI_add _ _ | exact nI_1 _) (by omega) dL_law_990 ?_
  refine lv_aload_n hx hb dL_law_991 rfl (lv_at hl 3 rfl) ?_
  refine hw_ci hI (hw_rSH hx hb hml hown hts hk hI (m_L_saw l hst Z M ad S T (lw_b oa da ae S X) oa f (xs (i + 1)) h.1 hV.b (Or.inl rfl) ho) cs_L_157 ⟨rfl, rfl⟩ ⟨(Nat.le_of_ble_eq_true rfl), (Nat.le_of_ble_eq_true rfl)⟩ rfl hl.1 rfl (Nat.le_of_ble_eq_true rfl) ⟨by show _ ≤ 396424; omega, by show _ ≤ 7906833; omega⟩ dL_law_992) (fun r1 M1 H locs hR hI => ?_)
  obtain ⟨e1, T1, f1, h, ho, hv, hd⟩ := lw_w h ho hd hR
  refine lv_istore (lv' := [(6, .int r1), (0, .ref b), (1, .ref (ad 0 0)), (2, .ref (ae 0 0)), (3, .ref oa), (4, .ref da), (5, .int (nI i))]) hx hb dL_law_995 hl (by decide) rfl (fun ls hl => ?_)
  refine lv_aload_n hx hb dL_law_997 rfl (lv_at hl 3 rfl) ?_
  refine lv_aload_n hx hb dL_law_998 rfl (lv_at hl 1 rfl) ?_
  refine lv_iload hx hb dL_law_999 (lv_at hl 6 rfl) ?_
  refine lv_iconst (v := nI 1) hx hb dL_law_1001 (by decide) ?_
  refine lv_iadd hx hb dL_law_1002 ?_
  refine hw_ti (nI_add _ _) ?_
  refine lw_sld hx hb hX hbl hbA hL hI (j := i + 1) (by first | rfl | exact nI_add _ _ | exact nI_1 _) (by omega) dL_law_1003 ?_
  have he : M1 (ae 0 0) = hr_e0 Z ae S X 0 := h.2.m 0 0 (show 0 < 4 by decide)
  refine hw_ci hI (hw_rV hx hb hml hown hts hk hI (m_X11_saw l Z M1 ae S X (lw_c oa da ad) (xs (i + 1)) h.2 hV (lw_A h (by rw [ho]; exact fun q => by cases q) (by rw [hd]; exact fun q => by cases q))) cv_L_159 he rfl rfl ⟨rfl, rfl⟩ ⟨(Nat.le_of_ble_eq_true rfl), (Nat.le_of_ble_eq_true rfl)⟩ rfl hl.1 rfl (Nat.le_of_ble_eq_true rfl) ⟨by show _ ≤ 396424; omega, by show _ ≤ 7906833; omega⟩ dL_law_1004) (fun r2 M2 H locs hR hI => ?_)
  clear he
  obtain ⟨ae1, X1, e0, h, ho, hd, ht, hq⟩ := lw_r h ho hd hR
  have hS : hv_ok (st_saw S (xs (i + 1))).2.2 := hk_saw hV (xs (i + 1))
  have hc : (st_saw S (xs (i + 1))).1 ≤ 3 := hc_saw S (xs (i + 1))
  refine lv_istore (lv' := [(7, .int r2), (6, .int r1), (0, .ref b), (1, .ref (ad 0 0)), (2, .ref (ae 0 0)), (3, .ref oa), (4, .ref da), (5, .int (nI i))]) hx hb dL_law_1007 hl (by decide) rfl (fun ls hl => ?_)
  refine lv_aload_n hx hb dL_law_1009 rfl (lv_at hl 4 rfl) ?_
  have he : M2 (ae 0 0) = hr_e0 Z ae1 (st_saw S (xs (i + 1))).2.2 X1 0 := by rw [← e0]; exact h.2.m 0 0 (show 0 < 4 by decide)
  refine hw_ci hI (hw_rV hx hb hml hown hts hk hI (m_X11_thrown l Z M2 (ae 0 0) _ _ _ _ _ _ he) cv_L_115 he rfl rfl ⟨rfl, rfl⟩ ⟨(Nat.le_of_ble_eq_true rfl), (Nat.le_of_ble_eq_true rfl)⟩ rfl hl.1 rfl (Nat.le_of_ble_eq_true rfl) ⟨by show _ ≤ 396424; omega, by show _ ≤ 7906833; omega⟩ dL_law_1010) (fun r3 M3 H locs hR hI => ?_)
  obtain ⟨e3, rfl⟩ := hR
  refine lv_iload hx hb dL_law_1013 (lv_at hl 1 rfl) ?_
  refine lv_icmp_eq (tgt := 1020) hx hb dL_law_1015 (by decide) (fun _ => ?_) (fun hc => absurd (e3.symm.trans (ht.trans e1)) hc)
  refine lv_iload hx hb dL_law_1020 (lv_at hl 1 rfl) ?_
  refine lv_if_ne (tgt := 1044) hx hb dL_law_1022 (by decide) (fun c1022 => ?_) (fun c1022 => ?_)
  · refine lv_goto (tgt := 2013) hx hb dL_law_1044 (by decide) ?_
    exact K M2 H locs ae1 (st_saw S (xs (i + 1))).2.2 _ _ ls hI e0 ⟨T1, X1, f1, g, h, hS, ho, hd⟩ (lv_sub hl [2, 3, 4, 5, 6, 7] rfl) (by omega) (by omega)
  · have o0 : (st_saw S (xs (i + 1))).1 = 0 := (hc_0 hc).mp (e1.trans c1022)
    have hv0 := hv o0
    have hq0 := hq o0
    refine lv_aload_n hx hb dL_law_1025 rfl (lv_at hl 5 rfl) ?_
    refine lv_iconst (v := nI 0) hx hb dL_law_1026 (by decide) ?_
    refine hw_lald hx hb hk hI ho (j := 0) rfl (by omega) (by decide) dL_law_1027 ?_
    refine lv_iload hx hb dL_law_1028 (lv_at hl 0 rfl) ?_
    refine lv_if_eq (tgt := 1037) hx hb dL_law_1030 (by decide) (fun c1030 => ?_) (fun c1030 => ?_)
    · refine lv_lconst (v := 0) hx hb dL_law_1037 (by decide) ?_
      refine W.lcmp hx hb dL_law_1038 ?_
      refine lv_if_eq (tgt := 1044) hx hb dL_law_1039 (by decide) (fun _ => ?_) (fun hc => absurd ((lg_cmp_eq _ _).mpr (hv0.trans ((congrArg (fun x : Int32 => if x = 0 then (0 : Int64) else 1) hq0).trans (if_pos c1030)))) hc)
      refine lv_goto (tgt := 2013) hx hb dL_law_1044 (by decide) ?_
      exact K M2 H locs ae1 (st_saw S (xs (i + 1))).2.2 _ _ ls hI e0 ⟨T1, X1, f1, g, h, hS, ho, hd⟩ (lv_sub hl [2, 3, 4, 5, 6, 7] rfl) (by omega) (by omega)
    · refine lv_lconst (v := 1) hx hb dL_law_1033 (by decide) ?_
      refine lv_goto (tgt := 1038) hx hb dL_law_1034 (by decide) ?_
      refine W.lcmp hx hb dL_law_1038 ?_
      refine lv_if_eq (tgt := 1044) hx hb dL_law_1039 (by decide) (fun _ => ?_) (fun hc => absurd ((lg_cmp_eq _ _).mpr (hv0.trans ((congrArg (fun x : Int32 => if x = 0 then (0 : Int64) else 1) hq0).trans (if_neg c1030)))) hc)
      refine lv_goto (tgt := 2013) hx hb dL_law_1044 (by decide) ?_
      exact K M2 H locs ae1 (st_saw S (xs (i + 1))).2.2 _ _ ls hI e0 ⟨T1, X1, f1, g, h, hS, ho, hd⟩ (lv_sub hl [2, 3, 4, 5, 6, 7] rfl) (by omega) (by omega)

set_option maxHeartbeats 4000000 in
set_option maxRecDepth 100000 in
theorem lc_13 {p : Program} {l : Launch} {e : Env} {s : State} {m : MethodId} {below : List Frame} {meth : Method} {c : Code} {H : Heap} {locs : List Loc} {cells slots : Nat} {Q : State → Prop} {ls : Array Slot} {Z : hw_Z} {M : hw_M} {b L i oa da : Nat} {xs : Nat → Int32} {ad ae : hp_ad} {S : hs_S} (hst : l.stackTraces = false) (C : lw_cx p s m c Z b L xs) (hI : hw_iv Z s M H locs) (hO : lw_ok Z M oa da ad ae S) (hl : lv_has ls 9 [(0, .ref b), (1, .ref (ad 0 0)), (2, .ref (ae 0 0)), (3, .ref oa), (4, .ref da), (5, .int (nI i))]) (hi : i + 5 ≤ L) (hc9 : cells + 770 ≤ 396424) (hs9 : slots + 15400 ≤ 7906833)
    (K : ∀ (M1 : hw_M) (H1 : Heap) (locs1 : List Loc) (ae1 : hp_ad) (S1 : hs_S) (cells1 slots1 : Nat) (ls1 : Array Slot), hw_iv Z s M1 H1 locs1 → ae1 0 0 = ae 0 0 → lw_ok Z M1 oa da ad ae1 S1 → lv_has ls1 9 [(0, .ref b), (1, .ref (ad 0 0)), (2, .ref (ae 0 0)), (3, .ref oa), (4, .ref da), (5, .int (nI i))] → cells1 ≤ cells + 770 → slots1 ≤ slots + 15400 → W p l e room_1 s m #[Value.ref b] below meth c H1 locs1 cells1 slots1 Q (F0 m 2013 ls1 [])) :
    W p l e room_1 s m #[Value.ref b] below meth c H locs cells slots Q (F0 m 1047 ls []) := by
  obtain ⟨hx, hb, hml, hown, hts, hk, hX, hbl, hbA, hL⟩ := C
  obtain ⟨T, X, f, g, h, hV, ho, hd⟩ := hO
  refine lv_aload_n hx hb dL_law_1047 rfl (lv_at hl 1 rfl) ?_
  refine lv_aload_n hx hb dL_law_1048 rfl (lv_at hl 0 rfl) ?_
  refine lv_iload hx hb dL_law_1049 (lv_at hl 5 rfl) ?_
  refine lv_iconst (v := nI 1) hx hb dL_law_1051 (by decide) ?_
  refine lv_iadd hx hb dL_law_1052 ?_
  refine hw_ti (nI_add _ _) ?_
  refine lw_sld hx hb hX hbl hbA hL hI (j := i + 1) (by first | rfl | exact nI_add _ _ | exact nI_1 _) (by omega) dL_law_1053 ?_
  refine lv_aload_n hx hb dL_law_1054 rfl (lv_at hl 3 rfl) ?_
  refine hw_ci hI (hw_rSH hx hb hml hown hts hk hI (m_L_press l hst Z M ad S T (lw_b oa da ae S X) oa f (xs (i + 1)) h.1 hV.b (Or.inl rfl) ho) cs_L_160 ⟨rfl, rfl⟩ ⟨(Nat.le_of_ble_eq_true rfl), (Nat.le_of_ble_eq_true rfl)⟩ rfl hl.1 rfl (Nat.le_of_ble_eq_true rfl) ⟨by show _ ≤ 396424; omega, by show _ ≤ 7906833; omega⟩ dL_law_1055) (fun r1 M1 H locs hR hI => ?_)
  obtain ⟨e1, T1, f1, h, ho, hv, hd⟩ := lw_w h ho hd hR
  refine lv_istore (lv' := [(6, .int r1), (0, .ref b), (1, .ref (ad 0 0)), (2, .ref (ae 0 0)), (3, .ref oa), (4, .ref da), (5, .int (nI i))]) hx hb dL_law_1058 hl (by decide) rfl (fun ls hl => ?_)
  refine lv_aload_n hx hb dL_law_1060 rfl (lv_at hl 3 rfl) ?_
  refine lv_aload_n hx hb dL_law_1061 rfl (lv_at hl 1 rfl) ?_
  refine lv_iload hx hb dL_law_1062 (lv_at hl 6 rfl) ?_
  refine lv_iconst (v := nI 1) hx hb dL_law_1064 (by decide) ?_
  refine lv_iadd hx hb dL_law_1065 ?_
  refine hw_ti (nI_add _ _) ?_
  refine lw_sld hx hb hX hbl hbA hL hI (j := i + 1) (by first | rfl | exact nI_add _ _ | exact nI_1 _) (by omega) dL_law_1066 ?_
  have he : M1 (ae 0 0) = hr_e0 Z ae S X 0 := h.2.m 0 0 (show 0 < 4 by decide)
  refine hw_ci hI (hw_rV hx hb hml hown hts hk hI (m_X11_press l Z M1 ae S X (lw_c oa da ad) (xs (i + 1)) h.2 hV (lw_A h (by rw [ho]; exact fun q => by cases q) (by rw [hd]; exact fun q => by cases q))) cv_L_162 he rfl rfl ⟨rfl, rfl⟩ ⟨(Nat.le_of_ble_eq_true rfl), (Nat.le_of_ble_eq_true rfl)⟩ rfl hl.1 rfl (Nat.le_of_ble_eq_true rfl) ⟨by show _ ≤ 396424; omega, by show _ ≤ 7906833; omega⟩ dL_law_1067) (fun r2 M2 H locs hR hI => ?_)
  clear he
  obtain ⟨ae1, X1, e0, h, ho, hd, ht, hq⟩ := lw_r h ho hd hR
  have hS : hv_ok (st_press S (xs (i + 1))).2.2 := hk_press hV (xs (i + 1))
  have hc : (st_press S (xs (i + 1))).1 ≤ 3 := hc_press S (xs (i + 1))
  refine lv_istore (lv' := [(7, .int r2), (6, .int r1), (0, .ref b), (1, .ref (ad 0 0)), (2, .ref (ae 0 0)), (3, .ref oa), (4, .ref da), (5, .int (nI i))]) hx hb dL_law_1070 hl (by decide) rfl (fun ls hl => ?_)
  refine lv_aload_n hx hb dL_law_1072 rfl (lv_at hl 4 rfl) ?_
  have he : M2 (ae 0 0) = hr_e0 Z ae1 (st_press S (xs (i + 1))).2.2 X1 0 := by rw [← e0]; exact h.2.m 0 0 (show 0 < 4 by decide)
  refine hw_ci hI (hw_rV hx hb hml hown hts hk hI (m_X11_thrown l Z M2 (ae 0 0) _ _ _ _ _ _ he) cv_L_115 he rfl rfl ⟨rfl, rfl⟩ ⟨(Nat.le_of_ble_eq_true rfl), (Nat.le_of_ble_eq_true rfl)⟩ rfl hl.1 rfl (Nat.le_of_ble_eq_true rfl) ⟨by show _ ≤ 396424; omega, by show _ ≤ 7906833; omega⟩ dL_law_1073) (fun r3 M3 H locs hR hI => ?_)
  obtain ⟨e3, rfl⟩ := hR
  refine lv_iload hx hb dL_law_1076 (lv_at hl 1 rfl) ?_
  refine lv_icmp_eq (tgt := 1083) hx hb dL_law_1078 (by decide) (fun _ => ?_) (fun hc => absurd (e3.symm.trans (ht.trans e1)) hc)
  refine lv_iload hx hb dL_law_1083 (lv_at hl 1 rfl) ?_
  refine lv_if_ne (tgt := 1100) hx hb dL_law_1085 (by decide) (fun c1085 => ?_) (fun c1085 => ?_)
  · refine lv_goto (tgt := 2013) hx hb dL_law_1100 (by decide) ?_
    exact K M2 H locs ae1 (st_press S (xs (i + 1))).2.2 _ _ ls hI e0 ⟨T1, X1, f1, g, h, hS, ho, hd⟩ (lv_sub hl [2, 3, 4, 5, 6, 7] rfl) (by omega) (by omega)
  · have o0 : (st_press S (xs (i + 1))).1 = 0 := (hc_0 hc).mp (e1.trans c1085)
    have hv0 := hv o0
    have hq0 := hq o0
    refine lv_aload_n hx hb dL_law_1088 rfl (lv_at hl 5 rfl) ?_
    refine lv_iconst (v := nI 0) hx hb dL_law_1089 (by decide) ?_
    refine hw_lald hx hb hk hI ho (j := 0) rfl (by omega) (by decide) dL_law_1090 ?_
    refine lv_iload hx hb dL_law_1091 (lv_at hl 0 rfl) ?_
    refine lv_i2l (v := r2.toInt64) hx hb dL_law_1093 rfl ?_
    refine W.lcmp hx hb dL_law_1094 ?_
    refine lv_if_eq (tgt := 1100) hx hb dL_law_1095 (by decide) (fun _ => ?_) (fun hc => absurd ((lg_cmp_eq _ _).mpr (hv0.trans (congrArg (fun x => x.toInt64) hq0))) hc)
    refine lv_goto (tgt := 2013) hx hb dL_law_1100 (by decide) ?_
    exact K M2 H locs ae1 (st_press S (xs (i + 1))).2.2 _ _ ls hI e0 ⟨T1, X1, f1, g, h, hS, ho, hd⟩ (lv_sub hl [2, 3, 4, 5, 6, 7] rfl) (by omega) (by omega)

set_option maxHeartbeats 4000000 in
set_option maxRecDepth 100000 in
theorem lc_14 {p : Program} {l : Launch} {e : Env} {s : State} {m : MethodId} {below : List Frame} {meth : Method} {c : Code} {H : Heap} {locs : List Loc} {cells slots : Nat} {Q : State → Prop} {ls : Array Slot} {Z : hw_Z} {M : hw_M} {b L i oa da : Nat} {xs : Nat → Int32} {ad ae : hp_ad} {S : hs_S} (hst : l.stackTraces = false) (C : lw_cx p s m c Z b L xs) (hI : hw_iv Z s M H locs) (hO : lw_ok Z M oa da ad ae S) (hl : lv_has ls 9 [(0, .ref b), (1, .ref (ad 0 0)), (2, .ref (ae 0 0)), (3, .ref oa), (4, .ref da), (5, .int (nI i))]) (hi : i + 5 ≤ L) (hc9 : cells + 770 ≤ 396424) (hs9 : slots + 15400 ≤ 7906833)
    (K : ∀ (M1 : hw_M) (H1 : Heap) (locs1 : List Loc) (ae1 : hp_ad) (S1 : hs_S) (cells1 slots1 : Nat) (ls1 : Array Slot), hw_iv Z s M1 H1 locs1 → ae1 0 0 = ae 0 0 → lw_ok Z M1 oa da ad ae1 S1 → lv_has ls1 9 [(0, .ref b), (1, .ref (ad 0 0)), (2, .ref (ae 0 0)), (3, .ref oa), (4, .ref da), (5, .int (nI i))] → cells1 ≤ cells + 770 → slots1 ≤ slots + 15400 → W p l e room_1 s m #[Value.ref b] below meth c H1 locs1 cells1 slots1 Q (F0 m 2013 ls1 [])) :
    W p l e room_1 s m #[Value.ref b] below meth c H locs cells slots Q (F0 m 1103 ls []) := by
  obtain ⟨hx, hb, hml, hown, hts, hk, hX, hbl, hbA, hL⟩ := C
  obtain ⟨T, X, f, g, h, hV, ho, hd⟩ := hO
  refine lv_aload_n hx hb dL_law_1103 rfl (lv_at hl 1 rfl) ?_
  refine lv_aload_n hx hb dL_law_1104 rfl (lv_at hl 0 rfl) ?_
  refine lv_iload hx hb dL_law_1105 (lv_at hl 5 rfl) ?_
  refine lv_iconst (v := nI 1) hx hb dL_law_1107 (by decide) ?_
  refine lv_iadd hx hb dL_law_1108 ?_
  refine hw_ti (nI_add _ _) ?_
  refine lw_sld hx hb hX hbl hbA hL hI (j := i + 1) (by first | rfl | exact nI_add _ _ | exact nI_1 _) (by omega) dL_law_1109 ?_
  refine lv_aload_n hx hb dL_law_1110 rfl (lv_at hl 3 rfl) ?_
  refine hw_ci hI (hw_rSH hx hb hml hown hts hk hI (m_L_prove l hst Z M ad S T (lw_b oa da ae S X) oa f (xs (i + 1)) h.1 hV.b (Or.inl rfl) ho) cs_L_163 ⟨rfl, rfl⟩ ⟨(Nat.le_of_ble_eq_true rfl), (Nat.le_of_ble_eq_true rfl)⟩ rfl hl.1 rfl (Nat.le_of_ble_eq_true rfl) ⟨by show _ ≤ 396424; omega, by show _ ≤ 7906833; omega⟩ dL_law_1111) (fun r1 M1 H locs hR hI => ?_)
  obtain ⟨e1, T1, f1, h, ho, hv, hd⟩ := lw_w h ho hd hR
  refine lv_istore (lv' := [(6, .int r1), (0, .ref b), (1, .ref (ad 0 0)), (2, .ref (ae 0 0)), (3, .ref oa), (4, .ref da), (5, .int (nI i))]) hx hb dL_law_1114 hl (by decide) rfl (fun ls hl => ?_)
  refine lv_aload_n hx hb dL_law_1116 rfl (lv_at hl 3 rfl) ?_
  refine lv_aload_n hx hb dL_law_1117 rfl (lv_at hl 1 rfl) ?_
  refine lv_iload hx hb dL_law_1118 (lv_at hl 6 rfl) ?_
  refine lv_iconst (v := nI 1) hx hb dL_law_1120 (by decide) ?_
  refine lv_iadd hx hb dL_law_1121 ?_
  refine hw_ti (nI_add _ _) ?_
  refine lw_sld hx hb hX hbl hbA hL hI (j := i + 1) (by first | rfl | exact nI_add _ _ | exact nI_1 _) (by omega) dL_law_1122 ?_
  have he : M1 (ae 0 0) = hr_e0 Z ae S X 0 := h.2.m 0 0 (show 0 < 4 by decide)
  refine hw_ci hI (hw_rV hx hb hml hown hts hk hI (m_X11_prove l Z M1 ae S X (lw_c oa da ad) (xs (i + 1)) h.2 hV (lw_A h (by rw [ho]; exact fun q => by cases q) (by rw [hd]; exact fun q => by cases q))) cv_L_165 he rfl rfl ⟨rfl, rfl⟩ ⟨(Nat.le_of_ble_eq_true rfl), (Nat.le_of_ble_eq_true rfl)⟩ rfl hl.1 rfl (Nat.le_of_ble_eq_true rfl) ⟨by show _ ≤ 396424; omega, by show _ ≤ 7906833; omega⟩ dL_law_1123) (fun r2 M2 H locs hR hI => ?_)
  clear he
  obtain ⟨ae1, X1, e0, h, ho, hd, ht, hq⟩ := lw_r h ho hd hR
  have hS : hv_ok (st_prove S (xs (i + 1))).2.2 := hk_prove hV (xs (i + 1))
  have hc : (st_prove S (xs (i + 1))).1 ≤ 3 := hc_prove S (xs (i + 1))
  refine lv_istore (lv' := [(7, .int r2), (6, .int r1), (0, .ref b), (1, .ref (ad 0 0)), (2, .ref (ae 0 0)), (3, .ref oa), (4, .ref da), (5, .int (nI i))]) hx hb dL_law_1126 hl (by decide) rfl (fun ls hl => ?_)
  refine lv_aload_n hx hb dL_law_1128 rfl (lv_at hl 4 rfl) ?_
  have he : M2 (ae 0 0) = hr_e0 Z ae1 (st_prove S (xs (i + 1))).2.2 X1 0 := by rw [← e0]; exact h.2.m 0 0 (show 0 < 4 by decide)
  refine hw_ci hI (hw_rV hx hb hml hown hts hk hI (m_X11_thrown l Z M2 (ae 0 0) _ _ _ _ _ _ he) cv_L_115 he rfl rfl ⟨rfl, rfl⟩ ⟨(Nat.le_of_ble_eq_true rfl), (Nat.le_of_ble_eq_true rfl)⟩ rfl hl.1 rfl (Nat.le_of_ble_eq_true rfl) ⟨by show _ ≤ 396424; omega, by show _ ≤ 7906833; omega⟩ dL_law_1129) (fun r3 M3 H locs hR hI => ?_)
  obtain ⟨e3, rfl⟩ := hR
  refine lv_iload hx hb dL_law_1132 (lv_at hl 1 rfl) ?_
  refine lv_icmp_eq (tgt := 1139) hx hb dL_law_1134 (by decide) (fun _ => ?_) (fun hc => absurd (e3.symm.trans (ht.trans e1)) hc)
  refine lv_iload hx hb dL_law_1139 (lv_at hl 1 rfl) ?_
  refine lv_if_ne (tgt := 1163) hx hb dL_law_1141 (by decide) (fun c1141 => ?_) (fun c1141 => ?_)
  · refine lv_goto (tgt := 2013) hx hb dL_law_1163 (by decide) ?_
    exact K M2 H locs ae1 (st_prove S (xs (i + 1))).2.2 _ _ ls hI e0 ⟨T1, X1, f1, g, h, hS, ho, hd⟩ (lv_sub hl [2, 3, 4, 5, 6, 7] rfl) (by omega) (by omega)
  · have o0 : (st_prove S (xs (i + 1))).1 = 0 := (hc_0 hc).mp (e1.trans c1141)
    have hv0 := hv o0
    have hq0 := hq o0
    refine lv_aload_n hx hb dL_law_1144 rfl (lv_at hl 5 rfl) ?_
    refine lv_iconst (v := nI 0) hx hb dL_law_1145 (by decide) ?_
    refine hw_lald hx hb hk hI ho (j := 0) rfl (by omega) (by decide) dL_law_1146 ?_
    refine lv_iload hx hb dL_law_1147 (lv_at hl 0 rfl) ?_
    refine lv_if_eq (tgt := 1156) hx hb dL_law_1149 (by decide) (fun c1149 => ?_) (fun c1149 => ?_)
    · refine lv_lconst (v := 0) hx hb dL_law_1156 (by decide) ?_
      refine W.lcmp hx hb dL_law_1157 ?_
      refine lv_if_eq (tgt := 1163) hx hb dL_law_1158 (by decide) (fun _ => ?_) (fun hc => absurd ((lg_cmp_eq _ _).mpr (hv0.trans ((congrArg (fun x : Int32 => if x = 0 then (0 : Int64) else 1) hq0).trans (if_pos c1149)))) hc)
      refine lv_goto (tgt := 2013) hx hb dL_law_1163 (by decide) ?_
      exact K M2 H locs ae1 (st_prove S (xs (i + 1))).2.2 _ _ ls hI e0 ⟨T1, X1, f1, g, h, hS, ho, hd⟩ (lv_sub hl [2, 3, 4, 5, 6, 7] rfl) (by omega) (by omega)
    · refine lv_lconst (v := 1) hx hb dL_law_1152 (by decide) ?_
      refine lv_goto (tgt := 1157) hx hb dL_law_1153 (by decide) ?_
      refine W.lcmp hx hb dL_law_1157 ?_
      refine lv_if_eq (tgt := 1163) hx hb dL_law_1158 (by decide) (fun _ => ?_) (fun hc => absurd ((lg_cmp_eq _ _).mpr (hv0.trans ((congrArg (fun x : Int32 => if x = 0 then (0 : Int64) else 1) hq0).trans (if_neg c1149)))) hc)
      refine lv_goto (tgt := 2013) hx hb dL_law_1163 (by decide) ?_
      exact K M2 H locs ae1 (st_prove S (xs (i + 1))).2.2 _ _ ls hI e0 ⟨T1, X1, f1, g, h, hS, ho, hd⟩ (lv_sub hl [2, 3, 4, 5, 6, 7] rfl) (by omega) (by omega)

set_option maxHeartbeats 4000000 in
set_option maxRecDepth 100000 in
theorem lc_15 {p : Program} {l : Launch} {e : Env} {s : State} {m : MethodId} {below : List Frame} {meth : Method} {c : Code} {H : Heap} {locs : List Loc} {cells slots : Nat} {Q : State → Prop} {ls : Array Slot} {Z : hw_Z} {M : hw_M} {b L i oa da : Nat} {xs : Nat → Int32} {ad ae : hp_ad} {S : hs_S} (hst : l.stackTraces = false) (C : lw_cx p s m c Z b L xs) (hI : hw_iv Z s M H locs) (hO : lw_ok Z M oa da ad ae S) (hl : lv_has ls 9 [(0, .ref b), (1, .ref (ad 0 0)), (2, .ref (ae 0 0)), (3, .ref oa), (4, .ref da), (5, .int (nI i))]) (hi : i + 5 ≤ L) (hc9 : cells + 770 ≤ 396424) (hs9 : slots + 15400 ≤ 7906833)
    (K : ∀ (M1 : hw_M) (H1 : Heap) (locs1 : List Loc) (ae1 : hp_ad) (S1 : hs_S) (cells1 slots1 : Nat) (ls1 : Array Slot), hw_iv Z s M1 H1 locs1 → ae1 0 0 = ae 0 0 → lw_ok Z M1 oa da ad ae1 S1 → lv_has ls1 9 [(0, .ref b), (1, .ref (ad 0 0)), (2, .ref (ae 0 0)), (3, .ref oa), (4, .ref da), (5, .int (nI i))] → cells1 ≤ cells + 770 → slots1 ≤ slots + 15400 → W p l e room_1 s m #[Value.ref b] below meth c H1 locs1 cells1 slots1 Q (F0 m 2013 ls1 [])) :
    W p l e room_1 s m #[Value.ref b] below meth c H locs cells slots Q (F0 m 1166 ls []) := by
  obtain ⟨hx, hb, hml, hown, hts, hk, hX, hbl, hbA, hL⟩ := C
  obtain ⟨T, X, f, g, h, hV, ho, hd⟩ := hO
  refine lv_aload_n hx hb dL_law_1166 rfl (lv_at hl 1 rfl) ?_
  refine lv_aload_n hx hb dL_law_1167 rfl (lv_at hl 0 rfl) ?_
  refine lv_iload hx hb dL_law_1168 (lv_at hl 5 rfl) ?_
  refine lv_iconst (v := nI 1) hx hb dL_law_1170 (by decide) ?_
  refine lv_iadd hx hb dL_law_1171 ?_
  refine hw_ti (nI_add _ _) ?_
  refine lw_sld hx hb hX hbl hbA hL hI (j := i + 1) (by first | rfl | exact nI_add _ _ | exact nI_1 _) (by omega) dL_law_1172 ?_
  refine lv_aload_n hx hb dL_law_1173 rfl (lv_at hl 3 rfl) ?_
  refine hw_ci hI (hw_rSH hx hb hml hown hts hk hI (m_L_accept l hst Z M ad S T (lw_b oa da ae S X) oa f (xs (i + 1)) h.1 hV.b (Or.inl rfl) ho) cs_L_166 ⟨rfl, rfl⟩ ⟨(Nat.le_of_ble_eq_true rfl), (Nat.le_of_ble_eq_true rfl)⟩ rfl hl.1 rfl (Nat.le_of_ble_eq_true rfl) ⟨by show _ ≤ 396424; omega, by show _ ≤ 7906833; omega⟩ dL_law_1174) (fun r1 M1 H locs hR hI => ?_)
  obtain ⟨e1, T1, f1, h, ho, hv, hd⟩ := lw_w h ho hd hR
  refine lv_istore (lv' := [(6, .int r1), (0, .ref b), (1, .ref (ad 0 0)), (2, .ref (ae 0 0)), (3, .ref oa), (4, .ref da), (5, .int (nI i))]) hx hb dL_law_1177 hl (by decide) rfl (fun ls hl => ?_)
  refine lv_aload_n hx hb dL_law_1179 rfl (lv_at hl 3 rfl) ?_
  refine lv_aload_n hx hb dL_law_1180 rfl (lv_at hl 1 rfl) ?_
  refine lv_iload hx hb dL_law_1181 (lv_at hl 6 rfl) ?_
  refine lv_iconst (v := nI 1) hx hb dL_law_1183 (by decide) ?_
  refine lv_iadd hx hb dL_law_1184 ?_
  refine hw_ti (nI_add _ _) ?_
  refine lw_sld hx hb hX hbl hbA hL hI (j := i + 1) (by first | rfl | exact nI_add _ _ | exact nI_1 _) (by omega) dL_law_1185 ?_
  have he : M1 (ae 0 0) = hr_e0 Z ae S X 0 := h.2.m 0 0 (show 0 < 4 by decide)
  refine hw_ci hI (hw_rV hx hb hml hown hts hk hI (m_X11_accept l Z M1 ae S X (lw_c oa da ad) (xs (i + 1)) h.2 hV (lw_A h (by rw [ho]; exact fun q => by cases q) (by rw [hd]; exact fun q => by cases q))) cv_L_168 he rfl rfl ⟨rfl, rfl⟩ ⟨(Nat.le_of_ble_eq_true rfl), (Nat.le_of_ble_eq_true rfl)⟩ rfl hl.1 rfl (Nat.le_of_ble_eq_true rfl) ⟨by show _ ≤ 396424; omega, by show _ ≤ 7906833; omega⟩ dL_law_1186) (fun r2 M2 H locs hR hI => ?_)
  clear he
  obtain ⟨ae1, X1, e0, h, ho, hd, ht, hq⟩ := lw_r h ho hd hR
  have hS : hv_ok (st_accept S (xs (i + 1))).2.2 := hk_accept hV (xs (i + 1))
  have hc : (st_accept S (xs (i + 1))).1 ≤ 3 := hc_accept S (xs (i + 1))
  refine lv_istore (lv' := [(7, .int r2), (6, .int r1), (0, .ref b), (1, .ref (ad 0 0)), (2, .ref (ae 0 0)), (3, .ref oa), (4, .ref da), (5, .int (nI i))]) hx hb dL_law_1189 hl (by decide) rfl (fun ls hl => ?_)
  refine lv_aload_n hx hb dL_law_1191 rfl (lv_at hl 4 rfl) ?_
  have he : M2 (ae 0 0) = hr_e0 Z ae1 (st_accept S (xs (i + 1))).2.2 X1 0 := by rw [← e0]; exact h.2.m 0 0 (show 0 < 4 by decide)
  refine hw_ci hI (hw_rV hx hb hml hown hts hk hI (m_X11_thrown l Z M2 (ae 0 0) _ _ _ _ _ _ he) cv_L_115 he rfl rfl ⟨rfl, rfl⟩ ⟨(Nat.le_of_ble_eq_true rfl), (Nat.le_of_ble_eq_true rfl)⟩ rfl hl.1 rfl (Nat.le_of_ble_eq_true rfl) ⟨by show _ ≤ 396424; omega, by show _ ≤ 7906833; omega⟩ dL_law_1192) (fun r3 M3 H locs hR hI => ?_)
  obtain ⟨e3, rfl⟩ := hR
  refine lv_iload hx hb dL_law_1195 (lv_at hl 1 rfl) ?_
  refine lv_icmp_eq (tgt := 1202) hx hb dL_law_1197 (by decide) (fun _ => ?_) (fun hc => absurd (e3.symm.trans (ht.trans e1)) hc)
  refine lv_iload hx hb dL_law_1202 (lv_at hl 1 rfl) ?_
  refine lv_if_ne (tgt := 1219) hx hb dL_law_1204 (by decide) (fun c1204 => ?_) (fun c1204 => ?_)
  · refine lv_goto (tgt := 2013) hx hb dL_law_1219 (by decide) ?_
    exact K M2 H locs ae1 (st_accept S (xs (i + 1))).2.2 _ _ ls hI e0 ⟨T1, X1, f1, g, h, hS, ho, hd⟩ (lv_sub hl [2, 3, 4, 5, 6, 7] rfl) (by omega) (by omega)
  · have o0 : (st_accept S (xs (i + 1))).1 = 0 := (hc_0 hc).mp (e1.trans c1204)
    have hv0 := hv o0
    have hq0 := hq o0
    refine lv_aload_n hx hb dL_law_1207 rfl (lv_at hl 5 rfl) ?_
    refine lv_iconst (v := nI 0) hx hb dL_law_1208 (by decide) ?_
    refine hw_lald hx hb hk hI ho (j := 0) rfl (by omega) (by decide) dL_law_1209 ?_
    refine lv_iload hx hb dL_law_1210 (lv_at hl 0 rfl) ?_
    refine lv_i2l (v := r2.toInt64) hx hb dL_law_1212 rfl ?_
    refine W.lcmp hx hb dL_law_1213 ?_
    refine lv_if_eq (tgt := 1219) hx hb dL_law_1214 (by decide) (fun _ => ?_) (fun hc => absurd ((lg_cmp_eq _ _).mpr (hv0.trans (congrArg (fun x => x.toInt64) hq0))) hc)
    refine lv_goto (tgt := 2013) hx hb dL_law_1219 (by decide) ?_
    exact K M2 H locs ae1 (st_accept S (xs (i + 1))).2.2 _ _ ls hI e0 ⟨T1, X1, f1, g, h, hS, ho, hd⟩ (lv_sub hl [2, 3, 4, 5, 6, 7] rfl) (by omega) (by omega)

set_option maxHeartbeats 4000000 in
set_option maxRecDepth 100000 in
theorem lc_16 {p : Program} {l : Launch} {e : Env} {s : State} {m : MethodId} {below : List Frame} {meth : Method} {c : Code} {H : Heap} {locs : List Loc} {cells slots : Nat} {Q : State → Prop} {ls : Array Slot} {Z : hw_Z} {M : hw_M} {b L i oa da : Nat} {xs : Nat → Int32} {ad ae : hp_ad} {S : hs_S} (hst : l.stackTraces = false) (C : lw_cx p s m c Z b L xs) (hI : hw_iv Z s M H locs) (hO : lw_ok Z M oa da ad ae S) (hl : lv_has ls 9 [(0, .ref b), (1, .ref (ad 0 0)), (2, .ref (ae 0 0)), (3, .ref oa), (4, .ref da), (5, .int (nI i))]) (hi : i + 5 ≤ L) (hc9 : cells + 770 ≤ 396424) (hs9 : slots + 15400 ≤ 7906833)
    (K : ∀ (M1 : hw_M) (H1 : Heap) (locs1 : List Loc) (ae1 : hp_ad) (S1 : hs_S) (cells1 slots1 : Nat) (ls1 : Array Slot), hw_iv Z s M1 H1 locs1 → ae1 0 0 = ae 0 0 → lw_ok Z M1 oa da ad ae1 S1 → lv_has ls1 9 [(0, .ref b), (1, .ref (ad 0 0)), (2, .ref (ae 0 0)), (3, .ref oa), (4, .ref da), (5, .int (nI i))] → cells1 ≤ cells + 770 → slots1 ≤ slots + 15400 → W p l e room_1 s m #[Value.ref b] below meth c H1 locs1 cells1 slots1 Q (F0 m 2013 ls1 [])) :
    W p l e room_1 s m #[Value.ref b] below meth c H locs cells slots Q (F0 m 1222 ls []) := by
  obtain ⟨hx, hb, hml, hown, hts, hk, hX, hbl, hbA, hL⟩ := C
  obtain ⟨T, X, f, g, h, hV, ho, hd⟩ := hO
  refine lv_aload_n hx hb dL_law_1222 rfl (lv_at hl 1 rfl) ?_
  refine lv_aload_n hx hb dL_law_1223 rfl (lv_at hl 0 rfl) ?_
  refine lv_iload hx hb dL_law_1224 (lv_at hl 5 rfl) ?_
  refine lv_iconst (v := nI 1) hx hb dL_law_1226 (by decide) ?_
  refine lv_iadd hx hb dL_law_1227 ?_
  refine hw_ti (nI_add _ _) ?_
  refine lw_sld hx hb hX hbl hbA hL hI (j := i + 1) (by first | rfl | exact nI_add _ _ | exact nI_1 _) (by omega) dL_law_1228 ?_
  refine lv_aload_n hx hb dL_law_1229 rfl (lv_at hl 0 rfl) ?_
  refine lv_iload hx hb dL_law_1230 (lv_at hl 5 rfl) ?_
  refine lv_iconst (v := nI 2) hx hb dL_law_1232 (by decide) ?_
  refine lv_iadd hx hb dL_law_1233 ?_
  refine hw_ti (nI_add _ _) ?_
  refine lw_sld hx hb hX hbl hbA hL hI (j := i + 2) (by first | rfl | exact nI_add _ _ | exact nI_1 _) (by omega) dL_law_1234 ?_
  refine lv_aload_n hx hb dL_law_1235 rfl (lv_at hl 3 rfl) ?_
  refine hw_ci hI (hw_rSH hx hb hml hown hts hk hI (m_L_ofPiece l hst Z M ad S T (lw_b oa da ae S X) oa f (xs (i + 1)) (xs (i + 2)) h.1 hV.b (Or.inl rfl) ho) cs_L_169 ⟨rfl, rfl⟩ ⟨(Nat.le_of_ble_eq_true rfl), (Nat.le_of_ble_eq_true rfl)⟩ rfl hl.1 rfl (Nat.le_of_ble_eq_true rfl) ⟨by show _ ≤ 396424; omega, by show _ ≤ 7906833; omega⟩ dL_law_1236) (fun r1 M1 H locs hR hI => ?_)
  obtain ⟨e1, T1, f1, h, ho, hv, hd⟩ := lw_w h ho hd hR
  refine lv_istore (lv' := [(6, .int r1), (0, .ref b), (1, .ref (ad 0 0)), (2, .ref (ae 0 0)), (3, .ref oa), (4, .ref da), (5, .int (nI i))]) hx hb dL_law_1239 hl (by decide) rfl (fun ls hl => ?_)
  refine lv_aload_n hx hb dL_law_1241 rfl (lv_at hl 3 rfl) ?_
  refine lv_aload_n hx hb dL_law_1242 rfl (lv_at hl 1 rfl) ?_
  refine lv_iload hx hb dL_law_1243 (lv_at hl 6 rfl) ?_
  refine lv_iconst (v := nI 1) hx hb dL_law_1245 (by decide) ?_
  refine lv_iadd hx hb dL_law_1246 ?_
  refine hw_ti (nI_add _ _) ?_
  refine lw_sld hx hb hX hbl hbA hL hI (j := i + 1) (by first | rfl | exact nI_add _ _ | exact nI_1 _) (by omega) dL_law_1247 ?_
  refine lv_aload_n hx hb dL_law_1248 rfl (lv_at hl 1 rfl) ?_
  refine lv_iload hx hb dL_law_1249 (lv_at hl 6 rfl) ?_
  refine lv_iconst (v := nI 2) hx hb dL_law_1251 (by decide) ?_
  refine lv_iadd hx hb dL_law_1252 ?_
  refine hw_ti (nI_add _ _) ?_
  refine lw_sld hx hb hX hbl hbA hL hI (j := i + 2) (by first | rfl | exact nI_add _ _ | exact nI_1 _) (by omega) dL_law_1253 ?_
  have he : M1 (ae 0 0) = hr_e0 Z ae S X 0 := h.2.m 0 0 (show 0 < 4 by decide)
  refine hw_ci hI (hw_rV hx hb hml hown hts hk hI (m_X11_ofPiece l Z M1 ae S X (lw_c oa da ad) (xs (i + 1)) (xs (i + 2)) h.2 hV (lw_A h (by rw [ho]; exact fun q => by cases q) (by rw [hd]; exact fun q => by cases q))) cv_L_171 he rfl rfl ⟨rfl, rfl⟩ ⟨(Nat.le_of_ble_eq_true rfl), (Nat.le_of_ble_eq_true rfl)⟩ rfl hl.1 rfl (Nat.le_of_ble_eq_true rfl) ⟨by show _ ≤ 396424; omega, by show _ ≤ 7906833; omega⟩ dL_law_1254) (fun r2 M2 H locs hR hI => ?_)
  clear he
  obtain ⟨ae1, X1, e0, h, ho, hd, ht, hq⟩ := lw_r h ho hd hR
  have hS : hv_ok (st_ofPiece S (xs (i + 1)) (xs (i + 2))).2.2 := by rw [ha_ofPiece]; exact hV
  have hc : (st_ofPiece S (xs (i + 1)) (xs (i + 2))).1 ≤ 3 := hc_ofPiece S (xs (i + 1)) (xs (i + 2))
  refine lv_istore (lv' := [(7, .int r2), (6, .int r1), (0, .ref b), (1, .ref (ad 0 0)), (2, .ref (ae 0 0)), (3, .ref oa), (4, .ref da), (5, .int (nI i))]) hx hb dL_law_1257 hl (by decide) rfl (fun ls hl => ?_)
  refine lv_aload_n hx hb dL_law_1259 rfl (lv_at hl 4 rfl) ?_
  have he : M2 (ae 0 0) = hr_e0 Z ae1 (st_ofPiece S (xs (i + 1)) (xs (i + 2))).2.2 X1 0 := by rw [← e0]; exact h.2.m 0 0 (show 0 < 4 by decide)
  refine hw_ci hI (hw_rV hx hb hml hown hts hk hI (m_X11_thrown l Z M2 (ae 0 0) _ _ _ _ _ _ he) cv_L_115 he rfl rfl ⟨rfl, rfl⟩ ⟨(Nat.le_of_ble_eq_true rfl), (Nat.le_of_ble_eq_true rfl)⟩ rfl hl.1 rfl (Nat.le_of_ble_eq_true rfl) ⟨by show _ ≤ 396424; omega, by show _ ≤ 7906833; omega⟩ dL_law_1260) (fun r3 M3 H locs hR hI => ?_)
  obtain ⟨e3, rfl⟩ := hR
  refine lv_iload hx hb dL_law_1263 (lv_at hl 1 rfl) ?_
  refine lv_icmp_eq (tgt := 1270) hx hb dL_law_1265 (by decide) (fun _ => ?_) (fun hc => absurd (e3.symm.trans (ht.trans e1)) hc)
  refine lv_iload hx hb dL_law_1270 (lv_at hl 1 rfl) ?_
  refine lv_if_ne (tgt := 1287) hx hb dL_law_1272 (by decide) (fun c1272 => ?_) (fun c1272 => ?_)
  · refine lv_goto (tgt := 2013) hx hb dL_law_1287 (by decide) ?_
    exact K M2 H locs ae1 (st_ofPiece S (xs (i + 1)) (xs (i + 2))).2.2 _ _ ls hI e0 ⟨T1, X1, f1, g, h, hS, ho, hd⟩ (lv_sub hl [2, 3, 4, 5, 6, 7] rfl) (by omega) (by omega)
  · have o0 : (st_ofPiece S (xs (i + 1)) (xs (i + 2))).1 = 0 := (hc_0 hc).mp (e1.trans c1272)
    have hv0 := hv o0
    have hq0 := hq o0
    refine lv_aload_n hx hb dL_law_1275 rfl (lv_at hl 5 rfl) ?_
    refine lv_iconst (v := nI 0) hx hb dL_law_1276 (by decide) ?_
    refine hw_lald hx hb hk hI ho (j := 0) rfl (by omega) (by decide) dL_law_1277 ?_
    refine lv_iload hx hb dL_law_1278 (lv_at hl 0 rfl) ?_
    refine lv_i2l (v := r2.toInt64) hx hb dL_law_1280 rfl ?_
    refine W.lcmp hx hb dL_law_1281 ?_
    refine lv_if_eq (tgt := 1287) hx hb dL_law_1282 (by decide) (fun _ => ?_) (fun hc => absurd ((lg_cmp_eq _ _).mpr (hv0.trans (congrArg (fun x => x.toInt64) hq0))) hc)
    refine lv_goto (tgt := 2013) hx hb dL_law_1287 (by decide) ?_
    exact K M2 H locs ae1 (st_ofPiece S (xs (i + 1)) (xs (i + 2))).2.2 _ _ ls hI e0 ⟨T1, X1, f1, g, h, hS, ho, hd⟩ (lv_sub hl [2, 3, 4, 5, 6, 7] rfl) (by omega) (by omega)

set_option maxHeartbeats 4000000 in
set_option maxRecDepth 100000 in
theorem lc_17 {p : Program} {l : Launch} {e : Env} {s : State} {m : MethodId} {below : List Frame} {meth : Method} {c : Code} {H : Heap} {locs : List Loc} {cells slots : Nat} {Q : State → Prop} {ls : Array Slot} {Z : hw_Z} {M : hw_M} {b L i oa da : Nat} {xs : Nat → Int32} {ad ae : hp_ad} {S : hs_S} (hst : l.stackTraces = false) (C : lw_cx p s m c Z b L xs) (hI : hw_iv Z s M H locs) (hO : lw_ok Z M oa da ad ae S) (hl : lv_has ls 9 [(0, .ref b), (1, .ref (ad 0 0)), (2, .ref (ae 0 0)), (3, .ref oa), (4, .ref da), (5, .int (nI i))]) (hi : i + 5 ≤ L) (hc9 : cells + 770 ≤ 396424) (hs9 : slots + 15400 ≤ 7906833)
    (K : ∀ (M1 : hw_M) (H1 : Heap) (locs1 : List Loc) (ae1 : hp_ad) (S1 : hs_S) (cells1 slots1 : Nat) (ls1 : Array Slot), hw_iv Z s M1 H1 locs1 → ae1 0 0 = ae 0 0 → lw_ok Z M1 oa da ad ae1 S1 → lv_has ls1 9 [(0, .ref b), (1, .ref (ad 0 0)), (2, .ref (ae 0 0)), (3, .ref oa), (4, .ref da), (5, .int (nI i))] → cells1 ≤ cells + 770 → slots1 ≤ slots + 15400 → W p l e room_1 s m #[Value.ref b] below meth c H1 locs1 cells1 slots1 Q (F0 m 2013 ls1 [])) :
    W p l e room_1 s m #[Value.ref b] below meth c H locs cells slots Q (F0 m 1290 ls []) := by
  obtain ⟨hx, hb, hml, hown, hts, hk, hX, hbl, hbA, hL⟩ := C
  obtain ⟨T, X, f, g, h, hV, ho, hd⟩ := hO
  refine lv_aload_n hx hb dL_law_1290 rfl (lv_at hl 1 rfl) ?_
  refine lv_aload_n hx hb dL_law_1291 rfl (lv_at hl 0 rfl) ?_
  refine lv_iload hx hb dL_law_1292 (lv_at hl 5 rfl) ?_
  refine lv_iconst (v := nI 1) hx hb dL_law_1294 (by decide) ?_
  refine lv_iadd hx hb dL_law_1295 ?_
  refine hw_ti (nI_add _ _) ?_
  refine lw_sld hx hb hX hbl hbA hL hI (j := i + 1) (by first | rfl | exact nI_add _ _ | exact nI_1 _) (by omega) dL_law_1296 ?_
  refine lv_aload_n hx hb dL_law_1297 rfl (lv_at hl 0 rfl) ?_
  refine lv_iload hx hb dL_law_1298 (lv_at hl 5 rfl) ?_
  refine lv_iconst (v := nI 2) hx hb dL_law_1300 (by decide) ?_
  refine lv_iadd hx hb dL_law_1301 ?_
  refine hw_ti (nI_add _ _) ?_
  refine lw_sld hx hb hX hbl hbA hL hI (j := i + 2) (by first | rfl | exact nI_add _ _ | exact nI_1 _) (by omega) dL_law_1302 ?_
  refine lv_aload_n hx hb dL_law_1303 rfl (lv_at hl 0 rfl) ?_
  refine lv_iload hx hb dL_law_1304 (lv_at hl 5 rfl) ?_
  refine lv_iconst (v := nI 3) hx hb dL_law_1306 (by decide) ?_
  refine lv_iadd hx hb dL_law_1307 ?_
  refine hw_ti (nI_add _ _) ?_
  refine lw_sld hx hb hX hbl hbA hL hI (j := i + 3) (by first | rfl | exact nI_add _ _ | exact nI_1 _) (by omega) dL_law_1308 ?_
  refine lv_aload_n hx hb dL_law_1309 rfl (lv_at hl 3 rfl) ?_
  refine hw_ci hI (hw_rSH hx hb hml hown hts hk hI (m_L_ofLayer l hst Z M ad S T (lw_b oa da ae S X) oa f (xs (i + 1)) (xs (i + 2)) (xs (i + 3)) h.1 hV.b (Or.inl rfl) ho) cs_L_172 ⟨rfl, rfl⟩ ⟨(Nat.le_of_ble_eq_true rfl), (Nat.le_of_ble_eq_true rfl)⟩ rfl hl.1 rfl (Nat.le_of_ble_eq_true rfl) ⟨by show _ ≤ 396424; omega, by show _ ≤ 7906833; omega⟩ dL_law_1310) (fun r1 M1 H locs hR hI => ?_)
  obtain ⟨e1, T1, f1, h, ho, hv, hd⟩ := lw_w h ho hd hR
  refine lv_istore (lv' := [(6, .int r1), (0, .ref b), (1, .ref (ad 0 0)), (2, .ref (ae 0 0)), (3, .ref oa), (4, .ref da), (5, .int (nI i))]) hx hb dL_law_1313 hl (by decide) rfl (fun ls hl => ?_)
  refine lv_aload_n hx hb dL_law_1315 rfl (lv_at hl 3 rfl) ?_
  refine lv_aload_n hx hb dL_law_1316 rfl (lv_at hl 1 rfl) ?_
  refine lv_iload hx hb dL_law_1317 (lv_at hl 6 rfl) ?_
  refine lv_iconst (v := nI 1) hx hb dL_law_1319 (by decide) ?_
  refine lv_iadd hx hb dL_law_1320 ?_
  refine hw_ti (nI_add _ _) ?_
  refine lw_sld hx hb hX hbl hbA hL hI (j := i + 1) (by first | rfl | exact nI_add _ _ | exact nI_1 _) (by omega) dL_law_1321 ?_
  refine lv_aload_n hx hb dL_law_1322 rfl (lv_at hl 1 rfl) ?_
  refine lv_iload hx hb dL_law_1323 (lv_at hl 6 rfl) ?_
  refine lv_iconst (v := nI 2) hx hb dL_law_1325 (by decide) ?_
  refine lv_iadd hx hb dL_law_1326 ?_
  refine hw_ti (nI_add _ _) ?_
  refine lw_sld hx hb hX hbl hbA hL hI (j := i + 2) (by first | rfl | exact nI_add _ _ | exact nI_1 _) (by omega) dL_law_1327 ?_
  refine lv_aload_n hx hb dL_law_1328 rfl (lv_at hl 1 rfl) ?_
  refine lv_iload hx hb dL_law_1329 (lv_at hl 6 rfl) ?_
  refine lv_iconst (v := nI 3) hx hb dL_law_1331 (by decide) ?_
  refine lv_iadd hx hb dL_law_1332 ?_
  refine hw_ti (nI_add _ _) ?_
  refine lw_sld hx hb hX hbl hbA hL hI (j := i + 3) (by first | rfl | exact nI_add _ _ | exact nI_1 _) (by omega) dL_law_1333 ?_
  have he : M1 (ae 0 0) = hr_e0 Z ae S X 0 := h.2.m 0 0 (show 0 < 4 by decide)
  refine hw_cl' hI (hw_rV hx hb hml hown hts hk hI (m_X11_ofLayer l Z M1 ae S X (lw_c oa da ad) (xs (i + 1)) (xs (i + 2)) (xs (i + 3)) h.2 hV (lw_A h (by rw [ho]; exact fun q => by cases q) (by rw [hd]; exact fun q => by cases q))) cv_L_175 he rfl rfl ⟨rfl, rfl⟩ ⟨(Nat.le_of_ble_eq_true rfl), (Nat.le_of_ble_eq_true rfl)⟩ rfl hl.1 rfl (Nat.le_of_ble_eq_true rfl) ⟨by show _ ≤ 396424; omega, by show _ ≤ 7906833; omega⟩ dL_law_1334) (fun r2 M2 H locs hR hI => ?_)
  clear he
  obtain ⟨ae1, X1, e0, h, ho, hd, ht, hq⟩ := lw_r h ho hd hR
  have hS : hv_ok (st_ofLayer S (xs (i + 1)) (xs (i + 2)) (xs (i + 3))).2.2 := by rw [ha_ofLayer]; exact hV
  have hc : (st_ofLayer S (xs (i + 1)) (xs (i + 2)) (xs (i + 3))).1 ≤ 3 := hc_ofLayer S (xs (i + 1)) (xs (i + 2)) (xs (i + 3))
  refine lv_lstore (lv' := [(7, .long r2), (6, .int r1), (0, .ref b), (1, .ref (ad 0 0)), (2, .ref (ae 0 0)), (3, .ref oa), (4, .ref da), (5, .int (nI i))]) hx hb dL_law_1337 hl (by decide) rfl (fun ls hl => ?_)
  refine lv_aload_n hx hb dL_law_1339 rfl (lv_at hl 4 rfl) ?_
  have he : M2 (ae 0 0) = hr_e0 Z ae1 (st_ofLayer S (xs (i + 1)) (xs (i + 2)) (xs (i + 3))).2.2 X1 0 := by rw [← e0]; exact h.2.m 0 0 (show 0 < 4 by decide)
  refine hw_ci hI (hw_rV hx hb hml hown hts hk hI (m_X11_thrown l Z M2 (ae 0 0) _ _ _ _ _ _ he) cv_L_115 he rfl rfl ⟨rfl, rfl⟩ ⟨(Nat.le_of_ble_eq_true rfl), (Nat.le_of_ble_eq_true rfl)⟩ rfl hl.1 rfl (Nat.le_of_ble_eq_true rfl) ⟨by show _ ≤ 396424; omega, by show _ ≤ 7906833; omega⟩ dL_law_1340) (fun r3 M3 H locs hR hI => ?_)
  obtain ⟨e3, rfl⟩ := hR
  refine lv_iload hx hb dL_law_1343 (lv_at hl 1 rfl) ?_
  refine lv_icmp_eq (tgt := 1350) hx hb dL_law_1345 (by decide) (fun _ => ?_) (fun hc => absurd (e3.symm.trans (ht.trans e1)) hc)
  refine lv_iload hx hb dL_law_1350 (lv_at hl 1 rfl) ?_
  refine lv_if_ne (tgt := 1366) hx hb dL_law_1352 (by decide) (fun c1352 => ?_) (fun c1352 => ?_)
  · refine lv_goto (tgt := 2013) hx hb dL_law_1366 (by decide) ?_
    exact K M2 H locs ae1 (st_ofLayer S (xs (i + 1)) (xs (i + 2)) (xs (i + 3))).2.2 _ _ ls hI e0 ⟨T1, X1, f1, g, h, hS, ho, hd⟩ (lv_sub hl [2, 3, 4, 5, 6, 7] rfl) (by omega) (by omega)
  · have o0 : (st_ofLayer S (xs (i + 1)) (xs (i + 2)) (xs (i + 3))).1 = 0 := (hc_0 hc).mp (e1.trans c1352)
    have hv0 := hv o0
    have hq0 := hq o0
    refine lv_aload_n hx hb dL_law_1355 rfl (lv_at hl 5 rfl) ?_
    refine lv_iconst (v := nI 0) hx hb dL_law_1356 (by decide) ?_
    refine hw_lald hx hb hk hI ho (j := 0) rfl (by omega) (by decide) dL_law_1357 ?_
    refine lv_lload hx hb dL_law_1358 (lv_at hl 0 rfl) ?_
    refine W.lcmp hx hb dL_law_1360 ?_
    refine lv_if_eq (tgt := 1366) hx hb dL_law_1361 (by decide) (fun _ => ?_) (fun hc => absurd ((lg_cmp_eq _ _).mpr (hv0.trans (congrArg (fun x => x) hq0))) hc)
    refine lv_goto (tgt := 2013) hx hb dL_law_1366 (by decide) ?_
    exact K M2 H locs ae1 (st_ofLayer S (xs (i + 1)) (xs (i + 2)) (xs (i + 3))).2.2 _ _ ls hI e0 ⟨T1, X1, f1, g, h, hS, ho, hd⟩ (lv_sub hl [2, 3, 4, 5, 6, 7] rfl) (by omega) (by omega)

set_option maxHeartbeats 4000000 in
set_option maxRecDepth 100000 in
theorem lc_18 {p : Program} {l : Launch} {e : Env} {s : State} {m : MethodId} {below : List Frame} {meth : Method} {c : Code} {H : Heap} {locs : List Loc} {cells slots : Nat} {Q : State → Prop} {ls : Array Slot} {Z : hw_Z} {M : hw_M} {b L i oa da : Nat} {xs : Nat → Int32} {ad ae : hp_ad} {S : hs_S} (hst : l.stackTraces = false) (C : lw_cx p s m c Z b L xs) (hI : hw_iv Z s M H locs) (hO : lw_ok Z M oa da ad ae S) (hl : lv_has ls 9 [(0, .ref b), (1, .ref (ad 0 0)), (2, .ref (ae 0 0)), (3, .ref oa), (4, .ref da), (5, .int (nI i))]) (hi : i + 5 ≤ L) (hc9 : cells + 770 ≤ 396424) (hs9 : slots + 15400 ≤ 7906833)
    (K : ∀ (M1 : hw_M) (H1 : Heap) (locs1 : List Loc) (ae1 : hp_ad) (S1 : hs_S) (cells1 slots1 : Nat) (ls1 : Array Slot), hw_iv Z s M1 H1 locs1 → ae1 0 0 = ae 0 0 → lw_ok Z M1 oa da ad ae1 S1 → lv_has ls1 9 [(0, .ref b), (1, .ref (ad 0 0)), (2, .ref (ae 0 0)), (3, .ref oa), (4, .ref da), (5, .int (nI i))] → cells1 ≤ cells + 770 → slots1 ≤ slots + 15400 → W p l e room_1 s m #[Value.ref b] below meth c H1 locs1 cells1 slots1 Q (F0 m 2013 ls1 [])) :
    W p l e room_1 s m #[Value.ref b] below meth c H locs cells slots Q (F0 m 1369 ls []) := by
  obtain ⟨hx, hb, hml, hown, hts, hk, hX, hbl, hbA, hL⟩ := C
  obtain ⟨T, X, f, g, h, hV, ho, hd⟩ := hO
  refine lv_aload_n hx hb dL_law_1369 rfl (lv_at hl 1 rfl) ?_
  refine lv_aload_n hx hb dL_law_1370 rfl (lv_at hl 0 rfl) ?_
  refine lv_iload hx hb dL_law_1371 (lv_at hl 5 rfl) ?_
  refine lv_iconst (v := nI 1) hx hb dL_law_1373 (by decide) ?_
  refine lv_iadd hx hb dL_law_1374 ?_
  refine hw_ti (nI_add _ _) ?_
  refine lw_sld hx hb hX hbl hbA hL hI (j := i + 1) (by first | rfl | exact nI_add _ _ | exact nI_1 _) (by omega) dL_law_1375 ?_
  refine lv_aload_n hx hb dL_law_1376 rfl (lv_at hl 0 rfl) ?_
  refine lv_iload hx hb dL_law_1377 (lv_at hl 5 rfl) ?_
  refine lv_iconst (v := nI 2) hx hb dL_law_1379 (by decide) ?_
  refine lv_iadd hx hb dL_law_1380 ?_
  refine hw_ti (nI_add _ _) ?_
  refine lw_sld hx hb hX hbl hbA hL hI (j := i + 2) (by first | rfl | exact nI_add _ _ | exact nI_1 _) (by omega) dL_law_1381 ?_
  refine lv_aload_n hx hb dL_law_1382 rfl (lv_at hl 3 rfl) ?_
  refine hw_ci hI (hw_rSH hx hb hml hown hts hk hI (m_L_ofPowder l hst Z M ad S T (lw_b oa da ae S X) oa f (xs (i + 1)) (xs (i + 2)) h.1 hV.b (Or.inl rfl) ho) cs_L_176 ⟨rfl, rfl⟩ ⟨(Nat.le_of_ble_eq_true rfl), (Nat.le_of_ble_eq_true rfl)⟩ rfl hl.1 rfl (Nat.le_of_ble_eq_true rfl) ⟨by show _ ≤ 396424; omega, by show _ ≤ 7906833; omega⟩ dL_law_1383) (fun r1 M1 H locs hR hI => ?_)
  obtain ⟨e1, T1, f1, h, ho, hv, hd⟩ := lw_w h ho hd hR
  refine lv_istore (lv' := [(6, .int r1), (0, .ref b), (1, .ref (ad 0 0)), (2, .ref (ae 0 0)), (3, .ref oa), (4, .ref da), (5, .int (nI i))]) hx hb dL_law_1386 hl (by decide) rfl (fun ls hl => ?_)
  refine lv_aload_n hx hb dL_law_1388 rfl (lv_at hl 3 rfl) ?_
  refine lv_aload_n hx hb dL_law_1389 rfl (lv_at hl 1 rfl) ?_
  refine lv_iload hx hb dL_law_1390 (lv_at hl 6 rfl) ?_
  refine lv_iconst (v := nI 1) hx hb dL_law_1392 (by decide) ?_
  refine lv_iadd hx hb dL_law_1393 ?_
  refine hw_ti (nI_add _ _) ?_
  refine lw_sld hx hb hX hbl hbA hL hI (j := i + 1) (by first | rfl | exact nI_add _ _ | exact nI_1 _) (by omega) dL_law_1394 ?_
  refine lv_aload_n hx hb dL_law_1395 rfl (lv_at hl 1 rfl) ?_
  refine lv_iload hx hb dL_law_1396 (lv_at hl 6 rfl) ?_
  refine lv_iconst (v := nI 2) hx hb dL_law_1398 (by decide) ?_
  refine lv_iadd hx hb dL_law_1399 ?_
  refine hw_ti (nI_add _ _) ?_
  refine lw_sld hx hb hX hbl hbA hL hI (j := i + 2) (by first | rfl | exact nI_add _ _ | exact nI_1 _) (by omega) dL_law_1400 ?_
  have he : M1 (ae 0 0) = hr_e0 Z ae S X 0 := h.2.m 0 0 (show 0 < 4 by decide)
  refine hw_ci hI (hw_rV hx hb hml hown hts hk hI (m_X11_ofPowder l Z M1 ae S X (lw_c oa da ad) (xs (i + 1)) (xs (i + 2)) h.2 hV (lw_A h (by rw [ho]; exact fun q => by cases q) (by rw [hd]; exact fun q => by cases q))) cv_L_178 he rfl rfl ⟨rfl, rfl⟩ ⟨(Nat.le_of_ble_eq_true rfl), (Nat.le_of_ble_eq_true rfl)⟩ rfl hl.1 rfl (Nat.le_of_ble_eq_true rfl) ⟨by show _ ≤ 396424; omega, by show _ ≤ 7906833; omega⟩ dL_law_1401) (fun r2 M2 H locs hR hI => ?_)
  clear he
  obtain ⟨ae1, X1, e0, h, ho, hd, ht, hq⟩ := lw_r h ho hd hR
  have hS : hv_ok (st_ofPowder S (xs (i + 1)) (xs (i + 2))).2.2 := by rw [ha_ofPowder]; exact hV
  have hc : (st_ofPowder S (xs (i + 1)) (xs (i + 2))).1 ≤ 3 := hc_ofPowder S (xs (i + 1)) (xs (i + 2))
  refine lv_istore (lv' := [(7, .int r2), (6, .int r1), (0, .ref b), (1, .ref (ad 0 0)), (2, .ref (ae 0 0)), (3, .ref oa), (4, .ref da), (5, .int (nI i))]) hx hb dL_law_1404 hl (by decide) rfl (fun ls hl => ?_)
  refine lv_aload_n hx hb dL_law_1406 rfl (lv_at hl 4 rfl) ?_
  have he : M2 (ae 0 0) = hr_e0 Z ae1 (st_ofPowder S (xs (i + 1)) (xs (i + 2))).2.2 X1 0 := by rw [← e0]; exact h.2.m 0 0 (show 0 < 4 by decide)
  refine hw_ci hI (hw_rV hx hb hml hown hts hk hI (m_X11_thrown l Z M2 (ae 0 0) _ _ _ _ _ _ he) cv_L_115 he rfl rfl ⟨rfl, rfl⟩ ⟨(Nat.le_of_ble_eq_true rfl), (Nat.le_of_ble_eq_true rfl)⟩ rfl hl.1 rfl (Nat.le_of_ble_eq_true rfl) ⟨by show _ ≤ 396424; omega, by show _ ≤ 7906833; omega⟩ dL_law_1407) (fun r3 M3 H locs hR hI => ?_)
  obtain ⟨e3, rfl⟩ := hR
  refine lv_iload hx hb dL_law_1410 (lv_at hl 1 rfl) ?_
  refine lv_icmp_eq (tgt := 1417) hx hb dL_law_1412 (by decide) (fun _ => ?_) (fun hc => absurd (e3.symm.trans (ht.trans e1)) hc)
  refine lv_iload hx hb dL_law_1417 (lv_at hl 1 rfl) ?_
  refine lv_if_ne (tgt := 1434) hx hb dL_law_1419 (by decide) (fun c1419 => ?_) (fun c1419 => ?_)
  · refine lv_goto (tgt := 2013) hx hb dL_law_1434 (by decide) ?_
    exact K M2 H locs ae1 (st_ofPowder S (xs (i + 1)) (xs (i + 2))).2.2 _ _ ls hI e0 ⟨T1, X1, f1, g, h, hS, ho, hd⟩ (lv_sub hl [2, 3, 4, 5, 6, 7] rfl) (by omega) (by omega)
  · have o0 : (st_ofPowder S (xs (i + 1)) (xs (i + 2))).1 = 0 := (hc_0 hc).mp (e1.trans c1419)
    have hv0 := hv o0
    have hq0 := hq o0
    refine lv_aload_n hx hb dL_law_1422 rfl (lv_at hl 5 rfl) ?_
    refine lv_iconst (v := nI 0) hx hb dL_law_1423 (by decide) ?_
    refine hw_lald hx hb hk hI ho (j := 0) rfl (by omega) (by decide) dL_law_1424 ?_
    refine lv_iload hx hb dL_law_1425 (lv_at hl 0 rfl) ?_
    refine lv_i2l (v := r2.toInt64) hx hb dL_law_1427 rfl ?_
    refine W.lcmp hx hb dL_law_1428 ?_
    refine lv_if_eq (tgt := 1434) hx hb dL_law_1429 (by decide) (fun _ => ?_) (fun hc => absurd ((lg_cmp_eq _ _).mpr (hv0.trans (congrArg (fun x => x.toInt64) hq0))) hc)
    refine lv_goto (tgt := 2013) hx hb dL_law_1434 (by decide) ?_
    exact K M2 H locs ae1 (st_ofPowder S (xs (i + 1)) (xs (i + 2))).2.2 _ _ ls hI e0 ⟨T1, X1, f1, g, h, hS, ho, hd⟩ (lv_sub hl [2, 3, 4, 5, 6, 7] rfl) (by omega) (by omega)

set_option maxHeartbeats 4000000 in
set_option maxRecDepth 100000 in
theorem lc_19 {p : Program} {l : Launch} {e : Env} {s : State} {m : MethodId} {below : List Frame} {meth : Method} {c : Code} {H : Heap} {locs : List Loc} {cells slots : Nat} {Q : State → Prop} {ls : Array Slot} {Z : hw_Z} {M : hw_M} {b L i oa da : Nat} {xs : Nat → Int32} {ad ae : hp_ad} {S : hs_S} (hst : l.stackTraces = false) (C : lw_cx p s m c Z b L xs) (hI : hw_iv Z s M H locs) (hO : lw_ok Z M oa da ad ae S) (hl : lv_has ls 9 [(0, .ref b), (1, .ref (ad 0 0)), (2, .ref (ae 0 0)), (3, .ref oa), (4, .ref da), (5, .int (nI i))]) (hi : i + 5 ≤ L) (hc9 : cells + 770 ≤ 396424) (hs9 : slots + 15400 ≤ 7906833)
    (K : ∀ (M1 : hw_M) (H1 : Heap) (locs1 : List Loc) (ae1 : hp_ad) (S1 : hs_S) (cells1 slots1 : Nat) (ls1 : Array Slot), hw_iv Z s M1 H1 locs1 → ae1 0 0 = ae 0 0 → lw_ok Z M1 oa da ad ae1 S1 → lv_has ls1 9 [(0, .ref b), (1, .ref (ad 0 0)), (2, .ref (ae 0 0)), (3, .ref oa), (4, .ref da), (5, .int (nI i))] → cells1 ≤ cells + 770 → slots1 ≤ slots + 15400 → W p l e room_1 s m #[Value.ref b] below meth c H1 locs1 cells1 slots1 Q (F0 m 2013 ls1 [])) :
    W p l e room_1 s m #[Value.ref b] below meth c H locs cells slots Q (F0 m 1437 ls []) := by
  obtain ⟨hx, hb, hml, hown, hts, hk, hX, hbl, hbA, hL⟩ := C
  obtain ⟨T, X, f, g, h, hV, ho, hd⟩ := hO
  refine lv_aload_n hx hb dL_law_1437 rfl (lv_at hl 1 rfl) ?_
  refine lv_aload_n hx hb dL_law_1438 rfl (lv_at hl 0 rfl) ?_
  refine lv_iload hx hb dL_law_1439 (lv_at hl 5 rfl) ?_
  refine lv_iconst (v := nI 1) hx hb dL_law_1441 (by decide) ?_
  refine lv_iadd hx hb dL_law_1442 ?_
  refine hw_ti (nI_add _ _) ?_
  refine lw_sld hx hb hX hbl hbA hL hI (j := i + 1) (by first | rfl | exact nI_add _ _ | exact nI_1 _) (by omega) dL_law_1443 ?_
  refine lv_aload_n hx hb dL_law_1444 rfl (lv_at hl 0 rfl) ?_
  refine lv_iload hx hb dL_law_1445 (lv_at hl 5 rfl) ?_
  refine lv_iconst (v := nI 2) hx hb dL_law_1447 (by decide) ?_
  refine lv_iadd hx hb dL_law_1448 ?_
  refine hw_ti (nI_add _ _) ?_
  refine lw_sld hx hb hX hbl hbA hL hI (j := i + 2) (by first | rfl | exact nI_add _ _ | exact nI_1 _) (by omega) dL_law_1449 ?_
  refine lv_aload_n hx hb dL_law_1450 rfl (lv_at hl 3 rfl) ?_
  refine hw_ci hI (hw_rSH hx hb hml hown hts hk hI (m_L_ofMachine l hst Z M ad S T (lw_b oa da ae S X) oa f (xs (i + 1)) (xs (i + 2)) h.1 hV.b (Or.inl rfl) ho) cs_L_179 ⟨rfl, rfl⟩ ⟨(Nat.le_of_ble_eq_true rfl), (Nat.le_of_ble_eq_true rfl)⟩ rfl hl.1 rfl (Nat.le_of_ble_eq_true rfl) ⟨by show _ ≤ 396424; omega, by show _ ≤ 7906833; omega⟩ dL_law_1451) (fun r1 M1 H locs hR hI => ?_)
  obtain ⟨e1, T1, f1, h, ho, hv, hd⟩ := lw_w h ho hd hR
  refine lv_istore (lv' := [(6, .int r1), (0, .ref b), (1, .ref (ad 0 0)), (2, .ref (ae 0 0)), (3, .ref oa), (4, .ref da), (5, .int (nI i))]) hx hb dL_law_1454 hl (by decide) rfl (fun ls hl => ?_)
  refine lv_aload_n hx hb dL_law_1456 rfl (lv_at hl 3 rfl) ?_
  refine lv_aload_n hx hb dL_law_1457 rfl (lv_at hl 1 rfl) ?_
  refine lv_iload hx hb dL_law_1458 (lv_at hl 6 rfl) ?_
  refine lv_iconst (v := nI 1) hx hb dL_law_1460 (by decide) ?_
  refine lv_iadd hx hb dL_law_1461 ?_
  refine hw_ti (nI_add _ _) ?_
  refine lw_sld hx hb hX hbl hbA hL hI (j := i + 1) (by first | rfl | exact nI_add _ _ | exact nI_1 _) (by omega) dL_law_1462 ?_
  refine lv_aload_n hx hb dL_law_1463 rfl (lv_at hl 1 rfl) ?_
  refine lv_iload hx hb dL_law_1464 (lv_at hl 6 rfl) ?_
  refine lv_iconst (v := nI 2) hx hb dL_law_1466 (by decide) ?_
  refine lv_iadd hx hb dL_law_1467 ?_
  refine hw_ti (nI_add _ _) ?_
  refine lw_sld hx hb hX hbl hbA hL hI (j := i + 2) (by first | rfl | exact nI_add _ _ | exact nI_1 _) (by omega) dL_law_1468 ?_
  have he : M1 (ae 0 0) = hr_e0 Z ae S X 0 := h.2.m 0 0 (show 0 < 4 by decide)
  refine hw_ci hI (hw_rV hx hb hml hown hts hk hI (m_X11_ofMachine l Z M1 ae S X (lw_c oa da ad) (xs (i + 1)) (xs (i + 2)) h.2 hV (lw_A h (by rw [ho]; exact fun q => by cases q) (by rw [hd]; exact fun q => by cases q))) cv_L_181 he rfl rfl ⟨rfl, rfl⟩ ⟨(Nat.le_of_ble_eq_true rfl), (Nat.le_of_ble_eq_true rfl)⟩ rfl hl.1 rfl (Nat.le_of_ble_eq_true rfl) ⟨by show _ ≤ 396424; omega, by show _ ≤ 7906833; omega⟩ dL_law_1469) (fun r2 M2 H locs hR hI => ?_)
  clear he
  obtain ⟨ae1, X1, e0, h, ho, hd, ht, hq⟩ := lw_r h ho hd hR
  have hS : hv_ok (st_ofMachine S (xs (i + 1)) (xs (i + 2))).2.2 := by rw [ha_ofMachine]; exact hV
  have hc : (st_ofMachine S (xs (i + 1)) (xs (i + 2))).1 ≤ 3 := hc_ofMachine S (xs (i + 1)) (xs (i + 2))
  refine lv_istore (lv' := [(7, .int r2), (6, .int r1), (0, .ref b), (1, .ref (ad 0 0)), (2, .ref (ae 0 0)), (3, .ref oa), (4, .ref da), (5, .int (nI i))]) hx hb dL_law_1472 hl (by decide) rfl (fun ls hl => ?_)
  refine lv_aload_n hx hb dL_law_1474 rfl (lv_at hl 4 rfl) ?_
  have he : M2 (ae 0 0) = hr_e0 Z ae1 (st_ofMachine S (xs (i + 1)) (xs (i + 2))).2.2 X1 0 := by rw [← e0]; exact h.2.m 0 0 (show 0 < 4 by decide)
  refine hw_ci hI (hw_rV hx hb hml hown hts hk hI (m_X11_thrown l Z M2 (ae 0 0) _ _ _ _ _ _ he) cv_L_115 he rfl rfl ⟨rfl, rfl⟩ ⟨(Nat.le_of_ble_eq_true rfl), (Nat.le_of_ble_eq_true rfl)⟩ rfl hl.1 rfl (Nat.le_of_ble_eq_true rfl) ⟨by show _ ≤ 396424; omega, by show _ ≤ 7906833; omega⟩ dL_law_1475) (fun r3 M3 H locs hR hI => ?_)
  obtain ⟨e3, rfl⟩ := hR
  refine lv_iload hx hb dL_law_1478 (lv_at hl 1 rfl) ?_
  refine lv_icmp_eq (tgt := 1485) hx hb dL_law_1480 (by decide) (fun _ => ?_) (fun hc => absurd (e3.symm.trans (ht.trans e1)) hc)
  refine lv_iload hx hb dL_law_1485 (lv_at hl 1 rfl) ?_
  refine lv_if_ne (tgt := 1502) hx hb dL_law_1487 (by decide) (fun c1487 => ?_) (fun c1487 => ?_)
  · refine lv_goto (tgt := 2013) hx hb dL_law_1502 (by decide) ?_
    exact K M2 H locs ae1 (st_ofMachine S (xs (i + 1)) (xs (i + 2))).2.2 _ _ ls hI e0 ⟨T1, X1, f1, g, h, hS, ho, hd⟩ (lv_sub hl [2, 3, 4, 5, 6, 7] rfl) (by omega) (by omega)
  · have o0 : (st_ofMachine S (xs (i + 1)) (xs (i + 2))).1 = 0 := (hc_0 hc).mp (e1.trans c1487)
    have hv0 := hv o0
    have hq0 := hq o0
    refine lv_aload_n hx hb dL_law_1490 rfl (lv_at hl 5 rfl) ?_
    refine lv_iconst (v := nI 0) hx hb dL_law_1491 (by decide) ?_
    refine hw_lald hx hb hk hI ho (j := 0) rfl (by omega) (by decide) dL_law_1492 ?_
    refine lv_iload hx hb dL_law_1493 (lv_at hl 0 rfl) ?_
    refine lv_i2l (v := r2.toInt64) hx hb dL_law_1495 rfl ?_
    refine W.lcmp hx hb dL_law_1496 ?_
    refine lv_if_eq (tgt := 1502) hx hb dL_law_1497 (by decide) (fun _ => ?_) (fun hc => absurd ((lg_cmp_eq _ _).mpr (hv0.trans (congrArg (fun x => x.toInt64) hq0))) hc)
    refine lv_goto (tgt := 2013) hx hb dL_law_1502 (by decide) ?_
    exact K M2 H locs ae1 (st_ofMachine S (xs (i + 1)) (xs (i + 2))).2.2 _ _ ls hI e0 ⟨T1, X1, f1, g, h, hS, ho, hd⟩ (lv_sub hl [2, 3, 4, 5, 6, 7] rfl) (by omega) (by omega)

set_option maxHeartbeats 4000000 in
set_option maxRecDepth 100000 in
theorem lc_20 {p : Program} {l : Launch} {e : Env} {s : State} {m : MethodId} {below : List Frame} {meth : Method} {c : Code} {H : Heap} {locs : List Loc} {cells slots : Nat} {Q : State → Prop} {ls : Array Slot} {Z : hw_Z} {M : hw_M} {b L i oa da : Nat} {xs : Nat → Int32} {ad ae : hp_ad} {S : hs_S} (hst : l.stackTraces = false) (C : lw_cx p s m c Z b L xs) (hI : hw_iv Z s M H locs) (hO : lw_ok Z M oa da ad ae S) (hl : lv_has ls 9 [(0, .ref b), (1, .ref (ad 0 0)), (2, .ref (ae 0 0)), (3, .ref oa), (4, .ref da), (5, .int (nI i))]) (hi : i + 5 ≤ L) (hc9 : cells + 770 ≤ 396424) (hs9 : slots + 15400 ≤ 7906833)
    (K : ∀ (M1 : hw_M) (H1 : Heap) (locs1 : List Loc) (ae1 : hp_ad) (S1 : hs_S) (cells1 slots1 : Nat) (ls1 : Array Slot), hw_iv Z s M1 H1 locs1 → ae1 0 0 = ae 0 0 → lw_ok Z M1 oa da ad ae1 S1 → lv_has ls1 9 [(0, .ref b), (1, .ref (ad 0 0)), (2, .ref (ae 0 0)), (3, .ref oa), (4, .ref da), (5, .int (nI i))] → cells1 ≤ cells + 770 → slots1 ≤ slots + 15400 → W p l e room_1 s m #[Value.ref b] below meth c H1 locs1 cells1 slots1 Q (F0 m 2013 ls1 [])) :
    W p l e room_1 s m #[Value.ref b] below meth c H locs cells slots Q (F0 m 1505 ls []) := by
  obtain ⟨hx, hb, hml, hown, hts, hk, hX, hbl, hbA, hL⟩ := C
  obtain ⟨T, X, f, g, h, hV, ho, hd⟩ := hO
  refine lv_aload_n hx hb dL_law_1505 rfl (lv_at hl 1 rfl) ?_
  refine lv_aload_n hx hb dL_law_1506 rfl (lv_at hl 0 rfl) ?_
  refine lv_iload hx hb dL_law_1507 (lv_at hl 5 rfl) ?_
  refine lv_iconst (v := nI 1) hx hb dL_law_1509 (by decide) ?_
  refine lv_iadd hx hb dL_law_1510 ?_
  refine hw_ti (nI_add _ _) ?_
  refine lw_sld hx hb hX hbl hbA hL hI (j := i + 1) (by first | rfl | exact nI_add _ _ | exact nI_1 _) (by omega) dL_law_1511 ?_
  refine lv_aload_n hx hb dL_law_1512 rfl (lv_at hl 0 rfl) ?_
  refine lv_iload hx hb dL_law_1513 (lv_at hl 5 rfl) ?_
  refine lv_iconst (v := nI 2) hx hb dL_law_1515 (by decide) ?_
  refine lv_iadd hx hb dL_law_1516 ?_
  refine hw_ti (nI_add _ _) ?_
  refine lw_sld hx hb hX hbl hbA hL hI (j := i + 2) (by first | rfl | exact nI_add _ _ | exact nI_1 _) (by omega) dL_law_1517 ?_
  refine lv_aload_n hx hb dL_law_1518 rfl (lv_at hl 0 rfl) ?_
  refine lv_iload hx hb dL_law_1519 (lv_at hl 5 rfl) ?_
  refine lv_iconst (v := nI 3) hx hb dL_law_1521 (by decide) ?_
  refine lv_iadd hx hb dL_law_1522 ?_
  refine hw_ti (nI_add _ _) ?_
  refine lw_sld hx hb hX hbl hbA hL hI (j := i + 3) (by first | rfl | exact nI_add _ _ | exact nI_1 _) (by omega) dL_law_1523 ?_
  refine lv_aload hx hb dL_law_1524 (lv_at hl 4 rfl) ?_
  refine hw_ci hI (hw_rSH hx hb hml hown hts hk hI (m_L_warm l hst Z M ad S T (lw_b oa da ae S X) da g (xs (i + 1)) (xs (i + 2)) (xs (i + 3)) h.1 hV.b (Or.inr (Or.inl rfl)) hd) cs_L_182 ⟨rfl, rfl⟩ ⟨(Nat.le_of_ble_eq_true rfl), (Nat.le_of_ble_eq_true rfl)⟩ rfl hl.1 rfl (Nat.le_of_ble_eq_true rfl) ⟨by show _ ≤ 396424; omega, by show _ ≤ 7906833; omega⟩ dL_law_1526) (fun r1 M1 H locs hR hI => ?_)
  obtain ⟨e1, T1, g1, h, ho, hd, hv⟩ := lw_wd h ho hd hR
  refine lv_istore (lv' := [(6, .int r1), (0, .ref b), (1, .ref (ad 0 0)), (2, .ref (ae 0 0)), (3, .ref oa), (4, .ref da), (5, .int (nI i))]) hx hb dL_law_1529 hl (by decide) rfl (fun ls hl => ?_)
  refine lv_aload_n hx hb dL_law_1531 rfl (lv_at hl 3 rfl) ?_
  refine lv_aload_n hx hb dL_law_1532 rfl (lv_at hl 1 rfl) ?_
  refine lv_iload hx hb dL_law_1533 (lv_at hl 6 rfl) ?_
  refine lv_iconst (v := nI 1) hx hb dL_law_1535 (by decide) ?_
  refine lv_iadd hx hb dL_law_1536 ?_
  refine hw_ti (nI_add _ _) ?_
  refine lw_sld hx hb hX hbl hbA hL hI (j := i + 1) (by first | rfl | exact nI_add _ _ | exact nI_1 _) (by omega) dL_law_1537 ?_
  refine lv_aload_n hx hb dL_law_1538 rfl (lv_at hl 1 rfl) ?_
  refine lv_iload hx hb dL_law_1539 (lv_at hl 6 rfl) ?_
  refine lv_iconst (v := nI 2) hx hb dL_law_1541 (by decide) ?_
  refine lv_iadd hx hb dL_law_1542 ?_
  refine hw_ti (nI_add _ _) ?_
  refine lw_sld hx hb hX hbl hbA hL hI (j := i + 2) (by first | rfl | exact nI_add _ _ | exact nI_1 _) (by omega) dL_law_1543 ?_
  refine lv_aload_n hx hb dL_law_1544 rfl (lv_at hl 1 rfl) ?_
  refine lv_iload hx hb dL_law_1545 (lv_at hl 6 rfl) ?_
  refine lv_iconst (v := nI 3) hx hb dL_law_1547 (by decide) ?_
  refine lv_iadd hx hb dL_law_1548 ?_
  refine hw_ti (nI_add _ _) ?_
  refine lw_sld hx hb hX hbl hbA hL hI (j := i + 3) (by first | rfl | exact nI_add _ _ | exact nI_1 _) (by omega) dL_law_1549 ?_
  have he : M1 (ae 0 0) = hr_e0 Z ae S X 0 := h.2.m 0 0 (show 0 < 4 by decide)
  refine hw_cd hI (hw_rV hx hb hml hown hts hk hI (m_X11_warm l Z M1 ae S X (lw_c oa da ad) (xs (i + 1)) (xs (i + 2)) (xs (i + 3)) h.2 hV (lw_A h (by rw [ho]; exact fun q => by cases q) (by rw [hd]; exact fun q => by cases q))) cv_L_185 he rfl rfl ⟨rfl, rfl⟩ ⟨(Nat.le_of_ble_eq_true rfl), (Nat.le_of_ble_eq_true rfl)⟩ rfl hl.1 rfl (Nat.le_of_ble_eq_true rfl) ⟨by show _ ≤ 396424; omega, by show _ ≤ 7906833; omega⟩ dL_law_1550) (fun r2 M2 H locs hR hI => ?_)
  clear he
  obtain ⟨ae1, X1, e0, h, ho, hd, ht, hq⟩ := lw_r h ho hd hR
  have hS : hv_ok (st_warm S (xs (i + 1)) (xs (i + 2)) (xs (i + 3))).2.2 := by rw [ha_warm]; exact hV
  have hc : (st_warm S (xs (i + 1)) (xs (i + 2)) (xs (i + 3))).1 ≤ 3 := hc_warm S (xs (i + 1)) (xs (i + 2)) (xs (i + 3))
  refine lv_dstore (lv' := [(7, .double r2), (6, .int r1), (0, .ref b), (1, .ref (ad 0 0)), (2, .ref (ae 0 0)), (3, .ref oa), (4, .ref da), (5, .int (nI i))]) hx hb dL_law_1553 hl (by decide) rfl (fun ls hl => ?_)
  refine lv_aload_n hx hb dL_law_1555 rfl (lv_at hl 4 rfl) ?_
  have he : M2 (ae 0 0) = hr_e0 Z ae1 (st_warm S (xs (i + 1)) (xs (i + 2)) (xs (i + 3))).2.2 X1 0 := by rw [← e0]; exact h.2.m 0 0 (show 0 < 4 by decide)
  refine hw_ci hI (hw_rV hx hb hml hown hts hk hI (m_X11_thrown l Z M2 (ae 0 0) _ _ _ _ _ _ he) cv_L_115 he rfl rfl ⟨rfl, rfl⟩ ⟨(Nat.le_of_ble_eq_true rfl), (Nat.le_of_ble_eq_true rfl)⟩ rfl hl.1 rfl (Nat.le_of_ble_eq_true rfl) ⟨by show _ ≤ 396424; omega, by show _ ≤ 7906833; omega⟩ dL_law_1556) (fun r3 M3 H locs hR hI => ?_)
  obtain ⟨e3, rfl⟩ := hR
  refine lv_iload hx hb dL_law_1559 (lv_at hl 1 rfl) ?_
  refine lv_icmp_eq (tgt := 1566) hx hb dL_law_1561 (by decide) (fun _ => ?_) (fun hc => absurd (e3.symm.trans (ht.trans e1)) hc)
  refine lv_iload hx hb dL_law_1566 (lv_at hl 1 rfl) ?_
  refine lv_if_ne (tgt := 1603) hx hb dL_law_1568 (by decide) (fun c1568 => ?_) (fun c1568 => ?_)
  · refine lv_goto (tgt := 2013) hx hb dL_law_1603 (by decide) ?_
    exact K M2 H locs ae1 (st_warm S (xs (i + 1)) (xs (i + 2)) (xs (i + 3))).2.2 _ _ ls hI e0 ⟨T1, X1, f, g1, h, hS, ho, hd⟩ (lv_sub hl [2, 3, 4, 5, 6, 7] rfl) (by omega) (by omega)
  · have o0 : (st_warm S (xs (i + 1)) (xs (i + 2)) (xs (i + 3))).1 = 0 := (hc_0 hc).mp (e1.trans c1568)
    have hv0 := hv o0
    have hq0 := hq o0
    refine lv_aload hx hb dL_law_1571 (lv_at hl 6 rfl) ?_
    refine lv_iconst (v := nI 0) hx hb dL_law_1573 (by decide) ?_
    refine hw_dald hx hb hk hI hd (j := 0) rfl (by omega) (by decide) dL_law_1574 ?_
    refine lv_dload hx hb dL_law_1575 (lv_at hl 0 rfl) ?_
    refine lv_dcmp hx hb dL_law_1577 ?_
    refine lv_if_eq (tgt := 1603) hx hb dL_law_1578 (by decide) (fun c1578 => ?_) (fun c1578 => ?_)
    · refine lv_goto (tgt := 2013) hx hb dL_law_1603 (by decide) ?_
      exact K M2 H locs ae1 (st_warm S (xs (i + 1)) (xs (i + 2)) (xs (i + 3))).2.2 _ _ ls hI e0 ⟨T1, X1, f, g1, h, hS, ho, hd⟩ (lv_sub hl [2, 3, 4, 5, 6, 7] rfl) (by omega) (by omega)
    · have eqd : g1 0 = r2 := hv0.trans hq0
      have n1 : ¬ Op.cmpValue (FP.dcmp (g1 0) (g1 0)) .l = 0 := by have q := c1578; rw [eqd] at q ⊢; exact q
      have n2 : ¬ Op.cmpValue (FP.dcmp r2 r2) .l = 0 := by have q := c1578; rw [eqd] at q; exact q
      refine lv_aload hx hb dL_law_1581 (lv_at hl 6 rfl) ?_
      refine lv_iconst (v := nI 0) hx hb dL_law_1583 (by decide) ?_
      refine hw_dald hx hb hk hI hd (j := 0) rfl (by omega) (by decide) dL_law_1584 ?_
      refine lv_aload hx hb dL_law_1585 (lv_at hl 6 rfl) ?_
      refine lv_iconst (v := nI 0) hx hb dL_law_1587 (by decide) ?_
      refine hw_dald hx hb hk hI hd (j := 0) rfl (by omega) (by decide) dL_law_1588 ?_
      refine lv_dcmp hx hb dL_law_1589 ?_
      refine lv_if_eq (tgt := 1601) hx hb dL_law_1590 (by decide) (fun hc => absurd hc n1) (fun _ => ?_)
      refine lv_dload hx hb dL_law_1593 (lv_at hl 0 rfl) ?_
      refine lv_dload hx hb dL_law_1595 (lv_at hl 0 rfl) ?_
      refine lv_dcmp hx hb dL_law_1597 ?_
      refine lv_if_ne (tgt := 1603) hx hb dL_law_1598 (by decide) (fun _ => ?_) (fun hc => absurd hc n2)
      refine lv_goto (tgt := 2013) hx hb dL_law_1603 (by decide) ?_
      exact K M2 H locs ae1 (st_warm S (xs (i + 1)) (xs (i + 2)) (xs (i + 3))).2.2 _ _ ls hI e0 ⟨T1, X1, f, g1, h, hS, ho, hd⟩ (lv_sub hl [2, 3, 4, 5, 6, 7] rfl) (by omega) (by omega)

set_option maxHeartbeats 4000000 in
set_option maxRecDepth 100000 in
theorem lc_21 {p : Program} {l : Launch} {e : Env} {s : State} {m : MethodId} {below : List Frame} {meth : Method} {c : Code} {H : Heap} {locs : List Loc} {cells slots : Nat} {Q : State → Prop} {ls : Array Slot} {Z : hw_Z} {M : hw_M} {b L i oa da : Nat} {xs : Nat → Int32} {ad ae : hp_ad} {S : hs_S} (hst : l.stackTraces = false) (C : lw_cx p s m c Z b L xs) (hI : hw_iv Z s M H locs) (hO : lw_ok Z M oa da ad ae S) (hl : lv_has ls 9 [(0, .ref b), (1, .ref (ad 0 0)), (2, .ref (ae 0 0)), (3, .ref oa), (4, .ref da), (5, .int (nI i))]) (hi : i + 5 ≤ L) (hc9 : cells + 770 ≤ 396424) (hs9 : slots + 15400 ≤ 7906833)
    (K : ∀ (M1 : hw_M) (H1 : Heap) (locs1 : List Loc) (ae1 : hp_ad) (S1 : hs_S) (cells1 slots1 : Nat) (ls1 : Array Slot), hw_iv Z s M1 H1 locs1 → ae1 0 0 = ae 0 0 → lw_ok Z M1 oa da ad ae1 S1 → lv_has ls1 9 [(0, .ref b), (1, .ref (ad 0 0)), (2, .ref (ae 0 0)), (3, .ref oa), (4, .ref da), (5, .int (nI i))] → cells1 ≤ cells + 770 → slots1 ≤ slots + 15400 → W p l e room_1 s m #[Value.ref b] below meth c H1 locs1 cells1 slots1 Q (F0 m 2013 ls1 [])) :
    W p l e room_1 s m #[Value.ref b] below meth c H locs cells slots Q (F0 m 1606 ls []) := by
  obtain ⟨hx, hb, hml, hown, hts, hk, hX, hbl, hbA, hL⟩ := C
  obtain ⟨T, X, f, g, h, hV, ho, hd⟩ := hO
  refine lv_aload_n hx hb dL_law_1606 rfl (lv_at hl 1 rfl) ?_
  refine lv_aload_n hx hb dL_law_1607 rfl (lv_at hl 0 rfl) ?_
  refine lv_iload hx hb dL_law_1608 (lv_at hl 5 rfl) ?_
  refine lv_iconst (v := nI 1) hx hb dL_law_1610 (by decide) ?_
  refine lv_iadd hx hb dL_law_1611 ?_
  refine hw_ti (nI_add _ _) ?_
  refine lw_sld hx hb hX hbl hbA hL hI (j := i + 1) (by first | rfl | exact nI_add _ _ | exact nI_1 _) (by omega) dL_law_1612 ?_
  refine lv_aload_n hx hb dL_law_1613 rfl (lv_at hl 0 rfl) ?_
  refine lv_iload hx hb dL_law_1614 (lv_at hl 5 rfl) ?_
  refine lv_iconst (v := nI 2) hx hb dL_law_1616 (by decide) ?_
  refine lv_iadd hx hb dL_law_1617 ?_
  refine hw_ti (nI_add _ _) ?_
  refine lw_sld hx hb hX hbl hbA hL hI (j := i + 2) (by first | rfl | exact nI_add _ _ | exact nI_1 _) (by omega) dL_law_1618 ?_
  refine lv_aload hx hb dL_law_1619 (lv_at hl 4 rfl) ?_
  refine hw_ci hI (hw_rSH hx hb hml hown hts hk hI (m_L_measure l hst Z M ad S T (lw_b oa da ae S X) da g (xs (i + 1)) (xs (i + 2)) h.1 hV.b (Or.inr (Or.inl rfl)) hd) cs_L_186 ⟨rfl, rfl⟩ ⟨(Nat.le_of_ble_eq_true rfl), (Nat.le_of_ble_eq_true rfl)⟩ rfl hl.1 rfl (Nat.le_of_ble_eq_true rfl) ⟨by show _ ≤ 396424; omega, by show _ ≤ 7906833; omega⟩ dL_law_1621) (fun r1 M1 H locs hR hI => ?_)
  obtain ⟨e1, T1, g1, h, ho, hd, hv⟩ := lw_wd h ho hd hR
  refine lv_istore (lv' := [(6, .int r1), (0, .ref b), (1, .ref (ad 0 0)), (2, .ref (ae 0 0)), (3, .ref oa), (4, .ref da), (5, .int (nI i))]) hx hb dL_law_1624 hl (by decide) rfl (fun ls hl => ?_)
  refine lv_aload_n hx hb dL_law_1626 rfl (lv_at hl 3 rfl) ?_
  refine lv_aload_n hx hb dL_law_1627 rfl (lv_at hl 1 rfl) ?_
  refine lv_iload hx hb dL_law_1628 (lv_at hl 6 rfl) ?_
  refine lv_iconst (v := nI 1) hx hb dL_law_1630 (by decide) ?_
  refine lv_iadd hx hb dL_law_1631 ?_
  refine hw_ti (nI_add _ _) ?_
  refine lw_sld hx hb hX hbl hbA hL hI (j := i + 1) (by first | rfl | exact nI_add _ _ | exact nI_1 _) (by omega) dL_law_1632 ?_
  refine lv_aload_n hx hb dL_law_1633 rfl (lv_at hl 1 rfl) ?_
  refine lv_iload hx hb dL_law_1634 (lv_at hl 6 rfl) ?_
  refine lv_iconst (v := nI 2) hx hb dL_law_1636 (by decide) ?_
  refine lv_iadd hx hb dL_law_1637 ?_
  refine hw_ti (nI_add _ _) ?_
  refine lw_sld hx hb hX hbl hbA hL hI (j := i + 2) (by first | rfl | exact nI_add _ _ | exact nI_1 _) (by omega) dL_law_1638 ?_
  have he : M1 (ae 0 0) = hr_e0 Z ae S X 0 := h.2.m 0 0 (show 0 < 4 by decide)
  refine hw_cd hI (hw_rV hx hb hml hown hts hk hI (m_X11_measure l Z M1 ae S X (lw_c oa da ad) (xs (i + 1)) (xs (i + 2)) h.2 hV (lw_A h (by rw [ho]; exact fun q => by cases q) (by rw [hd]; exact fun q => by cases q))) cv_L_189 he rfl rfl ⟨rfl, rfl⟩ ⟨(Nat.le_of_ble_eq_true rfl), (Nat.le_of_ble_eq_true rfl)⟩ rfl hl.1 rfl (Nat.le_of_ble_eq_true rfl) ⟨by show _ ≤ 396424; omega, by show _ ≤ 7906833; omega⟩ dL_law_1639) (fun r2 M2 H locs hR hI => ?_)
  clear he
  obtain ⟨ae1, X1, e0, h, ho, hd, ht, hq⟩ := lw_r h ho hd hR
  have hS : hv_ok (st_measure S (xs (i + 1)) (xs (i + 2))).2.2 := by rw [ha_measure]; exact hV
  have hc : (st_measure S (xs (i + 1)) (xs (i + 2))).1 ≤ 3 := hc_measure S (xs (i + 1)) (xs (i + 2))
  refine lv_dstore (lv' := [(7, .double r2), (6, .int r1), (0, .ref b), (1, .ref (ad 0 0)), (2, .ref (ae 0 0)), (3, .ref oa), (4, .ref da), (5, .int (nI i))]) hx hb dL_law_1642 hl (by decide) rfl (fun ls hl => ?_)
  refine lv_aload_n hx hb dL_law_1644 rfl (lv_at hl 4 rfl) ?_
  have he : M2 (ae 0 0) = hr_e0 Z ae1 (st_measure S (xs (i + 1)) (xs (i + 2))).2.2 X1 0 := by rw [← e0]; exact h.2.m 0 0 (show 0 < 4 by decide)
  refine hw_ci hI (hw_rV hx hb hml hown hts hk hI (m_X11_thrown l Z M2 (ae 0 0) _ _ _ _ _ _ he) cv_L_115 he rfl rfl ⟨rfl, rfl⟩ ⟨(Nat.le_of_ble_eq_true rfl), (Nat.le_of_ble_eq_true rfl)⟩ rfl hl.1 rfl (Nat.le_of_ble_eq_true rfl) ⟨by show _ ≤ 396424; omega, by show _ ≤ 7906833; omega⟩ dL_law_1645) (fun r3 M3 H locs hR hI => ?_)
  obtain ⟨e3, rfl⟩ := hR
  refine lv_iload hx hb dL_law_1648 (lv_at hl 1 rfl) ?_
  refine lv_icmp_eq (tgt := 1655) hx hb dL_law_1650 (by decide) (fun _ => ?_) (fun hc => absurd (e3.symm.trans (ht.trans e1)) hc)
  refine lv_iload hx hb dL_law_1655 (lv_at hl 1 rfl) ?_
  refine lv_if_ne (tgt := 1692) hx hb dL_law_1657 (by decide) (fun c1657 => ?_) (fun c1657 => ?_)
  · refine lv_goto (tgt := 2013) hx hb dL_law_1692 (by decide) ?_
    exact K M2 H locs ae1 (st_measure S (xs (i + 1)) (xs (i + 2))).2.2 _ _ ls hI e0 ⟨T1, X1, f, g1, h, hS, ho, hd⟩ (lv_sub hl [2, 3, 4, 5, 6, 7] rfl) (by omega) (by omega)
  · have o0 : (st_measure S (xs (i + 1)) (xs (i + 2))).1 = 0 := (hc_0 hc).mp (e1.trans c1657)
    have hv0 := hv o0
    have hq0 := hq o0
    refine lv_aload hx hb dL_law_1660 (lv_at hl 6 rfl) ?_
    refine lv_iconst (v := nI 0) hx hb dL_law_1662 (by decide) ?_
    refine hw_dald hx hb hk hI hd (j := 0) rfl (by omega) (by decide) dL_law_1663 ?_
    refine lv_dload hx hb dL_law_1664 (lv_at hl 0 rfl) ?_
    refine lv_dcmp hx hb dL_law_1666 ?_
    refine lv_if_eq (tgt := 1692) hx hb dL_law_1667 (by decide) (fun c1667 => ?_) (fun c1667 => ?_)
    · refine lv_goto (tgt := 2013) hx hb dL_law_1692 (by decide) ?_
      exact K M2 H locs ae1 (st_measure S (xs (i + 1)) (xs (i + 2))).2.2 _ _ ls hI e0 ⟨T1, X1, f, g1, h, hS, ho, hd⟩ (lv_sub hl [2, 3, 4, 5, 6, 7] rfl) (by omega) (by omega)
    · have eqd : g1 0 = r2 := hv0.trans hq0
      have n1 : ¬ Op.cmpValue (FP.dcmp (g1 0) (g1 0)) .l = 0 := by have q := c1667; rw [eqd] at q ⊢; exact q
      have n2 : ¬ Op.cmpValue (FP.dcmp r2 r2) .l = 0 := by have q := c1667; rw [eqd] at q; exact q
      refine lv_aload hx hb dL_law_1670 (lv_at hl 6 rfl) ?_
      refine lv_iconst (v := nI 0) hx hb dL_law_1672 (by decide) ?_
      refine hw_dald hx hb hk hI hd (j := 0) rfl (by omega) (by decide) dL_law_1673 ?_
      refine lv_aload hx hb dL_law_1674 (lv_at hl 6 rfl) ?_
      refine lv_iconst (v := nI 0) hx hb dL_law_1676 (by decide) ?_
      refine hw_dald hx hb hk hI hd (j := 0) rfl (by omega) (by decide) dL_law_1677 ?_
      refine lv_dcmp hx hb dL_law_1678 ?_
      refine lv_if_eq (tgt := 1690) hx hb dL_law_1679 (by decide) (fun hc => absurd hc n1) (fun _ => ?_)
      refine lv_dload hx hb dL_law_1682 (lv_at hl 0 rfl) ?_
      refine lv_dload hx hb dL_law_1684 (lv_at hl 0 rfl) ?_
      refine lv_dcmp hx hb dL_law_1686 ?_
      refine lv_if_ne (tgt := 1692) hx hb dL_law_1687 (by decide) (fun _ => ?_) (fun hc => absurd hc n2)
      refine lv_goto (tgt := 2013) hx hb dL_law_1692 (by decide) ?_
      exact K M2 H locs ae1 (st_measure S (xs (i + 1)) (xs (i + 2))).2.2 _ _ ls hI e0 ⟨T1, X1, f, g1, h, hS, ho, hd⟩ (lv_sub hl [2, 3, 4, 5, 6, 7] rfl) (by omega) (by omega)

set_option maxHeartbeats 4000000 in
set_option maxRecDepth 100000 in
theorem lc_22 {p : Program} {l : Launch} {e : Env} {s : State} {m : MethodId} {below : List Frame} {meth : Method} {c : Code} {H : Heap} {locs : List Loc} {cells slots : Nat} {Q : State → Prop} {ls : Array Slot} {Z : hw_Z} {M : hw_M} {b L i oa da : Nat} {xs : Nat → Int32} {ad ae : hp_ad} {S : hs_S} (hst : l.stackTraces = false) (C : lw_cx p s m c Z b L xs) (hI : hw_iv Z s M H locs) (hO : lw_ok Z M oa da ad ae S) (hl : lv_has ls 9 [(0, .ref b), (1, .ref (ad 0 0)), (2, .ref (ae 0 0)), (3, .ref oa), (4, .ref da), (5, .int (nI i))]) (hi : i + 5 ≤ L) (hc9 : cells + 770 ≤ 396424) (hs9 : slots + 15400 ≤ 7906833)
    (K : ∀ (M1 : hw_M) (H1 : Heap) (locs1 : List Loc) (ae1 : hp_ad) (S1 : hs_S) (cells1 slots1 : Nat) (ls1 : Array Slot), hw_iv Z s M1 H1 locs1 → ae1 0 0 = ae 0 0 → lw_ok Z M1 oa da ad ae1 S1 → lv_has ls1 9 [(0, .ref b), (1, .ref (ad 0 0)), (2, .ref (ae 0 0)), (3, .ref oa), (4, .ref da), (5, .int (nI i))] → cells1 ≤ cells + 770 → slots1 ≤ slots + 15400 → W p l e room_1 s m #[Value.ref b] below meth c H1 locs1 cells1 slots1 Q (F0 m 2013 ls1 [])) :
    W p l e room_1 s m #[Value.ref b] below meth c H locs cells slots Q (F0 m 1695 ls []) := by
  obtain ⟨hx, hb, hml, hown, hts, hk, hX, hbl, hbA, hL⟩ := C
  obtain ⟨T, X, f, g, h, hV, ho, hd⟩ := hO
  refine lv_aload_n hx hb dL_law_1695 rfl (lv_at hl 1 rfl) ?_
  refine lv_aload_n hx hb dL_law_1696 rfl (lv_at hl 0 rfl) ?_
  refine lv_iload hx hb dL_law_1697 (lv_at hl 5 rfl) ?_
  refine lv_iconst (v := nI 1) hx hb dL_law_1699 (by decide) ?_
  refine lv_iadd hx hb dL_law_1700 ?_
  refine hw_ti (nI_add _ _) ?_
  refine lw_sld hx hb hX hbl hbA hL hI (j := i + 1) (by first | rfl | exact nI_add _ _ | exact nI_1 _) (by omega) dL_law_1701 ?_
  refine lv_aload_n hx hb dL_law_1702 rfl (lv_at hl 3 rfl) ?_
  refine hw_ci hI (hw_rSH hx hb hml hown hts hk hI (m_L_recall l hst Z M ad S T (lw_b oa da ae S X) oa f (xs (i + 1)) h.1 hV.b (Or.inl rfl) ho) cs_L_190 ⟨rfl, rfl⟩ ⟨(Nat.le_of_ble_eq_true rfl), (Nat.le_of_ble_eq_true rfl)⟩ rfl hl.1 rfl (Nat.le_of_ble_eq_true rfl) ⟨by show _ ≤ 396424; omega, by show _ ≤ 7906833; omega⟩ dL_law_1703) (fun r1 M1 H locs hR hI => ?_)
  obtain ⟨e1, T1, f1, h, ho, hv, hd⟩ := lw_w h ho hd hR
  refine lv_istore (lv' := [(6, .int r1), (0, .ref b), (1, .ref (ad 0 0)), (2, .ref (ae 0 0)), (3, .ref oa), (4, .ref da), (5, .int (nI i))]) hx hb dL_law_1706 hl (by decide) rfl (fun ls hl => ?_)
  refine lv_aload_n hx hb dL_law_1708 rfl (lv_at hl 3 rfl) ?_
  refine lv_aload_n hx hb dL_law_1709 rfl (lv_at hl 1 rfl) ?_
  refine lv_iload hx hb dL_law_1710 (lv_at hl 6 rfl) ?_
  refine lv_iconst (v := nI 1) hx hb dL_law_1712 (by decide) ?_
  refine lv_iadd hx hb dL_law_1713 ?_
  refine hw_ti (nI_add _ _) ?_
  refine lw_sld hx hb hX hbl hbA hL hI (j := i + 1) (by first | rfl | exact nI_add _ _ | exact nI_1 _) (by omega) dL_law_1714 ?_
  have he : M1 (ae 0 0) = hr_e0 Z ae S X 0 := h.2.m 0 0 (show 0 < 4 by decide)
  refine hw_ci hI (hw_rV hx hb hml hown hts hk hI (m_X11_recall l Z M1 ae S X (lw_c oa da ad) (xs (i + 1)) h.2 hV (lw_A h (by rw [ho]; exact fun q => by cases q) (by rw [hd]; exact fun q => by cases q))) cv_L_192 he rfl rfl ⟨rfl, rfl⟩ ⟨(Nat.le_of_ble_eq_true rfl), (Nat.le_of_ble_eq_true rfl)⟩ rfl hl.1 rfl (Nat.le_of_ble_eq_true rfl) ⟨by show _ ≤ 396424; omega, by show _ ≤ 7906833; omega⟩ dL_law_1715) (fun r2 M2 H locs hR hI => ?_)
  clear he
  obtain ⟨ae1, X1, e0, h, ho, hd, ht, hq⟩ := lw_r h ho hd hR
  have hS : hv_ok (st_recall S (xs (i + 1))).2.2 := by rw [ha_recall]; exact hV
  have hc : (st_recall S (xs (i + 1))).1 ≤ 3 := hc_recall S (xs (i + 1))
  refine lv_istore (lv' := [(7, .int r2), (6, .int r1), (0, .ref b), (1, .ref (ad 0 0)), (2, .ref (ae 0 0)), (3, .ref oa), (4, .ref da), (5, .int (nI i))]) hx hb dL_law_1718 hl (by decide) rfl (fun ls hl => ?_)
  refine lv_aload_n hx hb dL_law_1720 rfl (lv_at hl 4 rfl) ?_
  have he : M2 (ae 0 0) = hr_e0 Z ae1 (st_recall S (xs (i + 1))).2.2 X1 0 := by rw [← e0]; exact h.2.m 0 0 (show 0 < 4 by decide)
  refine hw_ci hI (hw_rV hx hb hml hown hts hk hI (m_X11_thrown l Z M2 (ae 0 0) _ _ _ _ _ _ he) cv_L_115 he rfl rfl ⟨rfl, rfl⟩ ⟨(Nat.le_of_ble_eq_true rfl), (Nat.le_of_ble_eq_true rfl)⟩ rfl hl.1 rfl (Nat.le_of_ble_eq_true rfl) ⟨by show _ ≤ 396424; omega, by show _ ≤ 7906833; omega⟩ dL_law_1721) (fun r3 M3 H locs hR hI => ?_)
  obtain ⟨e3, rfl⟩ := hR
  refine lv_iload hx hb dL_law_1724 (lv_at hl 1 rfl) ?_
  refine lv_icmp_eq (tgt := 1731) hx hb dL_law_1726 (by decide) (fun _ => ?_) (fun hc => absurd (e3.symm.trans (ht.trans e1)) hc)
  refine lv_iload hx hb dL_law_1731 (lv_at hl 1 rfl) ?_
  refine lv_if_ne (tgt := 1748) hx hb dL_law_1733 (by decide) (fun c1733 => ?_) (fun c1733 => ?_)
  · refine lv_goto (tgt := 2013) hx hb dL_law_1748 (by decide) ?_
    exact K M2 H locs ae1 (st_recall S (xs (i + 1))).2.2 _ _ ls hI e0 ⟨T1, X1, f1, g, h, hS, ho, hd⟩ (lv_sub hl [2, 3, 4, 5, 6, 7] rfl) (by omega) (by omega)
  · have o0 : (st_recall S (xs (i + 1))).1 = 0 := (hc_0 hc).mp (e1.trans c1733)
    have hv0 := hv o0
    have hq0 := hq o0
    refine lv_aload_n hx hb dL_law_1736 rfl (lv_at hl 5 rfl) ?_
    refine lv_iconst (v := nI 0) hx hb dL_law_1737 (by decide) ?_
    refine hw_lald hx hb hk hI ho (j := 0) rfl (by omega) (by decide) dL_law_1738 ?_
    refine lv_iload hx hb dL_law_1739 (lv_at hl 0 rfl) ?_
    refine lv_i2l (v := r2.toInt64) hx hb dL_law_1741 rfl ?_
    refine W.lcmp hx hb dL_law_1742 ?_
    refine lv_if_eq (tgt := 1748) hx hb dL_law_1743 (by decide) (fun _ => ?_) (fun hc => absurd ((lg_cmp_eq _ _).mpr (hv0.trans (congrArg (fun x => x.toInt64) hq0))) hc)
    refine lv_goto (tgt := 2013) hx hb dL_law_1748 (by decide) ?_
    exact K M2 H locs ae1 (st_recall S (xs (i + 1))).2.2 _ _ ls hI e0 ⟨T1, X1, f1, g, h, hS, ho, hd⟩ (lv_sub hl [2, 3, 4, 5, 6, 7] rfl) (by omega) (by omega)

set_option maxHeartbeats 4000000 in
set_option maxRecDepth 100000 in
theorem lc_23 {p : Program} {l : Launch} {e : Env} {s : State} {m : MethodId} {below : List Frame} {meth : Method} {c : Code} {H : Heap} {locs : List Loc} {cells slots : Nat} {Q : State → Prop} {ls : Array Slot} {Z : hw_Z} {M : hw_M} {b L i oa da : Nat} {xs : Nat → Int32} {ad ae : hp_ad} {S : hs_S} (hst : l.stackTraces = false) (C : lw_cx p s m c Z b L xs) (hI : hw_iv Z s M H locs) (hO : lw_ok Z M oa da ad ae S) (hl : lv_has ls 9 [(0, .ref b), (1, .ref (ad 0 0)), (2, .ref (ae 0 0)), (3, .ref oa), (4, .ref da), (5, .int (nI i))]) (hi : i + 5 ≤ L) (hc9 : cells + 770 ≤ 396424) (hs9 : slots + 15400 ≤ 7906833)
    (K : ∀ (M1 : hw_M) (H1 : Heap) (locs1 : List Loc) (ae1 : hp_ad) (S1 : hs_S) (cells1 slots1 : Nat) (ls1 : Array Slot), hw_iv Z s M1 H1 locs1 → ae1 0 0 = ae 0 0 → lw_ok Z M1 oa da ad ae1 S1 → lv_has ls1 9 [(0, .ref b), (1, .ref (ad 0 0)), (2, .ref (ae 0 0)), (3, .ref oa), (4, .ref da), (5, .int (nI i))] → cells1 ≤ cells + 770 → slots1 ≤ slots + 15400 → W p l e room_1 s m #[Value.ref b] below meth c H1 locs1 cells1 slots1 Q (F0 m 2013 ls1 [])) :
    W p l e room_1 s m #[Value.ref b] below meth c H locs cells slots Q (F0 m 1751 ls []) := by
  obtain ⟨hx, hb, hml, hown, hts, hk, hX, hbl, hbA, hL⟩ := C
  obtain ⟨T, X, f, g, h, hV, ho, hd⟩ := hO
  refine lv_aload_n hx hb dL_law_1751 rfl (lv_at hl 1 rfl) ?_
  refine lv_aload_n hx hb dL_law_1752 rfl (lv_at hl 0 rfl) ?_
  refine lv_iload hx hb dL_law_1753 (lv_at hl 5 rfl) ?_
  refine lv_iconst (v := nI 1) hx hb dL_law_1755 (by decide) ?_
  refine lv_iadd hx hb dL_law_1756 ?_
  refine hw_ti (nI_add _ _) ?_
  refine lw_sld hx hb hX hbl hbA hL hI (j := i + 1) (by first | rfl | exact nI_add _ _ | exact nI_1 _) (by omega) dL_law_1757 ?_
  refine lv_aload_n hx hb dL_law_1758 rfl (lv_at hl 3 rfl) ?_
  refine hw_ci hI (hw_rSH hx hb hml hown hts hk hI (m_L_many l hst Z M ad S T (lw_b oa da ae S X) oa f (xs (i + 1)) h.1 hV.b (Or.inl rfl) ho) cs_L_193 ⟨rfl, rfl⟩ ⟨(Nat.le_of_ble_eq_true rfl), (Nat.le_of_ble_eq_true rfl)⟩ rfl hl.1 rfl (Nat.le_of_ble_eq_true rfl) ⟨by show _ ≤ 396424; omega, by show _ ≤ 7906833; omega⟩ dL_law_1759) (fun r1 M1 H locs hR hI => ?_)
  obtain ⟨e1, T1, f1, h, ho, hv, hd⟩ := lw_w h ho hd hR
  refine lv_istore (lv' := [(6, .int r1), (0, .ref b), (1, .ref (ad 0 0)), (2, .ref (ae 0 0)), (3, .ref oa), (4, .ref da), (5, .int (nI i))]) hx hb dL_law_1762 hl (by decide) rfl (fun ls hl => ?_)
  refine lv_aload_n hx hb dL_law_1764 rfl (lv_at hl 3 rfl) ?_
  refine lv_aload_n hx hb dL_law_1765 rfl (lv_at hl 1 rfl) ?_
  refine lv_iload hx hb dL_law_1766 (lv_at hl 6 rfl) ?_
  refine lv_iconst (v := nI 1) hx hb dL_law_1768 (by decide) ?_
  refine lv_iadd hx hb dL_law_1769 ?_
  refine hw_ti (nI_add _ _) ?_
  refine lw_sld hx hb hX hbl hbA hL hI (j := i + 1) (by first | rfl | exact nI_add _ _ | exact nI_1 _) (by omega) dL_law_1770 ?_
  have he : M1 (ae 0 0) = hr_e0 Z ae S X 0 := h.2.m 0 0 (show 0 < 4 by decide)
  refine hw_ci hI (hw_rV hx hb hml hown hts hk hI (m_X11_many l Z M1 ae S X (lw_c oa da ad) (xs (i + 1)) h.2 hV (lw_A h (by rw [ho]; exact fun q => by cases q) (by rw [hd]; exact fun q => by cases q))) cv_L_195 he rfl rfl ⟨rfl, rfl⟩ ⟨(Nat.le_of_ble_eq_true rfl), (Nat.le_of_ble_eq_true rfl)⟩ rfl hl.1 rfl (Nat.le_of_ble_eq_true rfl) ⟨by show _ ≤ 396424; omega, by show _ ≤ 7906833; omega⟩ dL_law_1771) (fun r2 M2 H locs hR hI => ?_)
  clear he
  obtain ⟨ae1, X1, e0, h, ho, hd, ht, hq⟩ := lw_r h ho hd hR
  have hS : hv_ok (st_many S (xs (i + 1))).2.2 := by rw [ha_many]; exact hV
  have hc : (st_many S (xs (i + 1))).1 ≤ 3 := hc_many S (xs (i + 1))
  refine lv_istore (lv' := [(7, .int r2), (6, .int r1), (0, .ref b), (1, .ref (ad 0 0)), (2, .ref (ae 0 0)), (3, .ref oa), (4, .ref da), (5, .int (nI i))]) hx hb dL_law_1774 hl (by decide) rfl (fun ls hl => ?_)
  refine lv_aload_n hx hb dL_law_1776 rfl (lv_at hl 4 rfl) ?_
  have he : M2 (ae 0 0) = hr_e0 Z ae1 (st_many S (xs (i + 1))).2.2 X1 0 := by rw [← e0]; exact h.2.m 0 0 (show 0 < 4 by decide)
  refine hw_ci hI (hw_rV hx hb hml hown hts hk hI (m_X11_thrown l Z M2 (ae 0 0) _ _ _ _ _ _ he) cv_L_115 he rfl rfl ⟨rfl, rfl⟩ ⟨(Nat.le_of_ble_eq_true rfl), (Nat.le_of_ble_eq_true rfl)⟩ rfl hl.1 rfl (Nat.le_of_ble_eq_true rfl) ⟨by show _ ≤ 396424; omega, by show _ ≤ 7906833; omega⟩ dL_law_1777) (fun r3 M3 H locs hR hI => ?_)
  obtain ⟨e3, rfl⟩ := hR
  refine lv_iload hx hb dL_law_1780 (lv_at hl 1 rfl) ?_
  refine lv_icmp_eq (tgt := 1787) hx hb dL_law_1782 (by decide) (fun _ => ?_) (fun hc => absurd (e3.symm.trans (ht.trans e1)) hc)
  refine lv_iload hx hb dL_law_1787 (lv_at hl 1 rfl) ?_
  refine lv_if_ne (tgt := 1804) hx hb dL_law_1789 (by decide) (fun c1789 => ?_) (fun c1789 => ?_)
  · refine lv_goto (tgt := 2013) hx hb dL_law_1804 (by decide) ?_
    exact K M2 H locs ae1 (st_many S (xs (i + 1))).2.2 _ _ ls hI e0 ⟨T1, X1, f1, g, h, hS, ho, hd⟩ (lv_sub hl [2, 3, 4, 5, 6, 7] rfl) (by omega) (by omega)
  · have o0 : (st_many S (xs (i + 1))).1 = 0 := (hc_0 hc).mp (e1.trans c1789)
    have hv0 := hv o0
    have hq0 := hq o0
    refine lv_aload_n hx hb dL_law_1792 rfl (lv_at hl 5 rfl) ?_
    refine lv_iconst (v := nI 0) hx hb dL_law_1793 (by decide) ?_
    refine hw_lald hx hb hk hI ho (j := 0) rfl (by omega) (by decide) dL_law_1794 ?_
    refine lv_iload hx hb dL_law_1795 (lv_at hl 0 rfl) ?_
    refine lv_i2l (v := r2.toInt64) hx hb dL_law_1797 rfl ?_
    refine W.lcmp hx hb dL_law_1798 ?_
    refine lv_if_eq (tgt := 1804) hx hb dL_law_1799 (by decide) (fun _ => ?_) (fun hc => absurd ((lg_cmp_eq _ _).mpr (hv0.trans (congrArg (fun x => x.toInt64) hq0))) hc)
    refine lv_goto (tgt := 2013) hx hb dL_law_1804 (by decide) ?_
    exact K M2 H locs ae1 (st_many S (xs (i + 1))).2.2 _ _ ls hI e0 ⟨T1, X1, f1, g, h, hS, ho, hd⟩ (lv_sub hl [2, 3, 4, 5, 6, 7] rfl) (by omega) (by omega)

set_option maxHeartbeats 4000000 in
set_option maxRecDepth 100000 in
theorem lc_24 {p : Program} {l : Launch} {e : Env} {s : State} {m : MethodId} {below : List Frame} {meth : Method} {c : Code} {H : Heap} {locs : List Loc} {cells slots : Nat} {Q : State → Prop} {ls : Array Slot} {Z : hw_Z} {M : hw_M} {b L i oa da : Nat} {xs : Nat → Int32} {ad ae : hp_ad} {S : hs_S} (hst : l.stackTraces = false) (C : lw_cx p s m c Z b L xs) (hI : hw_iv Z s M H locs) (hO : lw_ok Z M oa da ad ae S) (hl : lv_has ls 9 [(0, .ref b), (1, .ref (ad 0 0)), (2, .ref (ae 0 0)), (3, .ref oa), (4, .ref da), (5, .int (nI i))]) (hi : i + 5 ≤ L) (hc9 : cells + 770 ≤ 396424) (hs9 : slots + 15400 ≤ 7906833)
    (K : ∀ (M1 : hw_M) (H1 : Heap) (locs1 : List Loc) (ae1 : hp_ad) (S1 : hs_S) (cells1 slots1 : Nat) (ls1 : Array Slot), hw_iv Z s M1 H1 locs1 → ae1 0 0 = ae 0 0 → lw_ok Z M1 oa da ad ae1 S1 → lv_has ls1 9 [(0, .ref b), (1, .ref (ad 0 0)), (2, .ref (ae 0 0)), (3, .ref oa), (4, .ref da), (5, .int (nI i))] → cells1 ≤ cells + 770 → slots1 ≤ slots + 15400 → W p l e room_1 s m #[Value.ref b] below meth c H1 locs1 cells1 slots1 Q (F0 m 2013 ls1 [])) :
    W p l e room_1 s m #[Value.ref b] below meth c H locs cells slots Q (F0 m 1807 ls []) := by
  obtain ⟨hx, hb, hml, hown, hts, hk, hX, hbl, hbA, hL⟩ := C
  obtain ⟨T, X, f, g, h, hV, ho, hd⟩ := hO
  refine lv_aload_n hx hb dL_law_1807 rfl (lv_at hl 1 rfl) ?_
  refine lv_aload_n hx hb dL_law_1808 rfl (lv_at hl 0 rfl) ?_
  refine lv_iload hx hb dL_law_1809 (lv_at hl 5 rfl) ?_
  refine lv_iconst (v := nI 1) hx hb dL_law_1811 (by decide) ?_
  refine lv_iadd hx hb dL_law_1812 ?_
  refine hw_ti (nI_add _ _) ?_
  refine lw_sld hx hb hX hbl hbA hL hI (j := i + 1) (by first | rfl | exact nI_add _ _ | exact nI_1 _) (by omega) dL_law_1813 ?_
  refine lv_aload_n hx hb dL_law_1814 rfl (lv_at hl 0 rfl) ?_
  refine lv_iload hx hb dL_law_1815 (lv_at hl 5 rfl) ?_
  refine lv_iconst (v := nI 2) hx hb dL_law_1817 (by decide) ?_
  refine lv_iadd hx hb dL_law_1818 ?_
  refine hw_ti (nI_add _ _) ?_
  refine lw_sld hx hb hX hbl hbA hL hI (j := i + 2) (by first | rfl | exact nI_add _ _ | exact nI_1 _) (by omega) dL_law_1819 ?_
  refine lv_aload_n hx hb dL_law_1820 rfl (lv_at hl 3 rfl) ?_
  refine hw_ci hI (hw_rSH hx hb hml hown hts hk hI (m_L_wouldHold l hst Z M ad S T (lw_b oa da ae S X) oa f (xs (i + 1)) (xs (i + 2)) h.1 hV.b (Or.inl rfl) ho) cs_L_196 ⟨rfl, rfl⟩ ⟨(Nat.le_of_ble_eq_true rfl), (Nat.le_of_ble_eq_true rfl)⟩ rfl hl.1 rfl (Nat.le_of_ble_eq_true rfl) ⟨by show _ ≤ 396424; omega, by show _ ≤ 7906833; omega⟩ dL_law_1821) (fun r1 M1 H locs hR hI => ?_)
  obtain ⟨e1, T1, f1, h, ho, hv, hd⟩ := lw_w h ho hd hR
  refine lv_istore (lv' := [(6, .int r1), (0, .ref b), (1, .ref (ad 0 0)), (2, .ref (ae 0 0)), (3, .ref oa), (4, .ref da), (5, .int (nI i))]) hx hb dL_law_1824 hl (by decide) rfl (fun ls hl => ?_)
  refine lv_aload_n hx hb dL_law_1826 rfl (lv_at hl 3 rfl) ?_
  refine lv_aload_n hx hb dL_law_1827 rfl (lv_at hl 1 rfl) ?_
  refine lv_iload hx hb dL_law_1828 (lv_at hl 6 rfl) ?_
  refine lv_iconst (v := nI 1) hx hb dL_law_1830 (by decide) ?_
  refine lv_iadd hx hb dL_law_1831 ?_
  refine hw_ti (nI_add _ _) ?_
  refine lw_sld hx hb hX hbl hbA hL hI (j := i + 1) (by first | rfl | exact nI_add _ _ | exact nI_1 _) (by omega) dL_law_1832 ?_
  refine lv_aload_n hx hb dL_law_1833 rfl (lv_at hl 1 rfl) ?_
  refine lv_iload hx hb dL_law_1834 (lv_at hl 6 rfl) ?_
  refine lv_iconst (v := nI 2) hx hb dL_law_1836 (by decide) ?_
  refine lv_iadd hx hb dL_law_1837 ?_
  refine hw_ti (nI_add _ _) ?_
  refine lw_sld hx hb hX hbl hbA hL hI (j := i + 2) (by first | rfl | exact nI_add _ _ | exact nI_1 _) (by omega) dL_law_1838 ?_
  have he : M1 (ae 0 0) = hr_e0 Z ae S X 0 := h.2.m 0 0 (show 0 < 4 by decide)
  refine hw_ci hI (hw_rV hx hb hml hown hts hk hI (m_X11_wouldHold l Z M1 ae S X (lw_c oa da ad) (xs (i + 1)) (xs (i + 2)) h.2 hV (lw_A h (by rw [ho]; exact fun q => by cases q) (by rw [hd]; exact fun q => by cases q))) cv_L_198 he rfl rfl ⟨rfl, rfl⟩ ⟨(Nat.le_of_ble_eq_true rfl), (Nat.le_of_ble_eq_true rfl)⟩ rfl hl.1 rfl (Nat.le_of_ble_eq_true rfl) ⟨by show _ ≤ 396424; omega, by show _ ≤ 7906833; omega⟩ dL_law_1839) (fun r2 M2 H locs hR hI => ?_)
  clear he
  obtain ⟨ae1, X1, e0, h, ho, hd, ht, hq⟩ := lw_r h ho hd hR
  have hS : hv_ok (st_wouldHold S (xs (i + 1)) (xs (i + 2))).2.2 := by rw [ha_wouldHold]; exact hV
  have hc : (st_wouldHold S (xs (i + 1)) (xs (i + 2))).1 ≤ 3 := hc_wouldHold S (xs (i + 1)) (xs (i + 2))
  refine lv_istore (lv' := [(7, .int r2), (6, .int r1), (0, .ref b), (1, .ref (ad 0 0)), (2, .ref (ae 0 0)), (3, .ref oa), (4, .ref da), (5, .int (nI i))]) hx hb dL_law_1842 hl (by decide) rfl (fun ls hl => ?_)
  refine lv_aload_n hx hb dL_law_1844 rfl (lv_at hl 4 rfl) ?_
  have he : M2 (ae 0 0) = hr_e0 Z ae1 (st_wouldHold S (xs (i + 1)) (xs (i + 2))).2.2 X1 0 := by rw [← e0]; exact h.2.m 0 0 (show 0 < 4 by decide)
  refine hw_ci hI (hw_rV hx hb hml hown hts hk hI (m_X11_thrown l Z M2 (ae 0 0) _ _ _ _ _ _ he) cv_L_115 he rfl rfl ⟨rfl, rfl⟩ ⟨(Nat.le_of_ble_eq_true rfl), (Nat.le_of_ble_eq_true rfl)⟩ rfl hl.1 rfl (Nat.le_of_ble_eq_true rfl) ⟨by show _ ≤ 396424; omega, by show _ ≤ 7906833; omega⟩ dL_law_1845) (fun r3 M3 H locs hR hI => ?_)
  obtain ⟨e3, rfl⟩ := hR
  refine lv_iload hx hb dL_law_1848 (lv_at hl 1 rfl) ?_
  refine lv_icmp_eq (tgt := 1855) hx hb dL_law_1850 (by decide) (fun _ => ?_) (fun hc => absurd (e3.symm.trans (ht.trans e1)) hc)
  refine lv_iload hx hb dL_law_1855 (lv_at hl 1 rfl) ?_
  refine lv_if_ne (tgt := 1872) hx hb dL_law_1857 (by decide) (fun c1857 => ?_) (fun c1857 => ?_)
  · refine lv_goto (tgt := 2013) hx hb dL_law_1872 (by decide) ?_
    exact K M2 H locs ae1 (st_wouldHold S (xs (i + 1)) (xs (i + 2))).2.2 _ _ ls hI e0 ⟨T1, X1, f1, g, h, hS, ho, hd⟩ (lv_sub hl [2, 3, 4, 5, 6, 7] rfl) (by omega) (by omega)
  · have o0 : (st_wouldHold S (xs (i + 1)) (xs (i + 2))).1 = 0 := (hc_0 hc).mp (e1.trans c1857)
    have hv0 := hv o0
    have hq0 := hq o0
    refine lv_aload_n hx hb dL_law_1860 rfl (lv_at hl 5 rfl) ?_
    refine lv_iconst (v := nI 0) hx hb dL_law_1861 (by decide) ?_
    refine hw_lald hx hb hk hI ho (j := 0) rfl (by omega) (by decide) dL_law_1862 ?_
    refine lv_iload hx hb dL_law_1863 (lv_at hl 0 rfl) ?_
    refine lv_i2l (v := r2.toInt64) hx hb dL_law_1865 rfl ?_
    refine W.lcmp hx hb dL_law_1866 ?_
    refine lv_if_eq (tgt := 1872) hx hb dL_law_1867 (by decide) (fun _ => ?_) (fun hc => absurd ((lg_cmp_eq _ _).mpr (hv0.trans (congrArg (fun x => x.toInt64) hq0))) hc)
    refine lv_goto (tgt := 2013) hx hb dL_law_1872 (by decide) ?_
    exact K M2 H locs ae1 (st_wouldHold S (xs (i + 1)) (xs (i + 2))).2.2 _ _ ls hI e0 ⟨T1, X1, f1, g, h, hS, ho, hd⟩ (lv_sub hl [2, 3, 4, 5, 6, 7] rfl) (by omega) (by omega)

set_option maxHeartbeats 4000000 in
set_option maxRecDepth 100000 in
theorem lc_25 {p : Program} {l : Launch} {e : Env} {s : State} {m : MethodId} {below : List Frame} {meth : Method} {c : Code} {H : Heap} {locs : List Loc} {cells slots : Nat} {Q : State → Prop} {ls : Array Slot} {Z : hw_Z} {M : hw_M} {b L i oa da : Nat} {xs : Nat → Int32} {ad ae : hp_ad} {S : hs_S} (hst : l.stackTraces = false) (C : lw_cx p s m c Z b L xs) (hI : hw_iv Z s M H locs) (hO : lw_ok Z M oa da ad ae S) (hl : lv_has ls 9 [(0, .ref b), (1, .ref (ad 0 0)), (2, .ref (ae 0 0)), (3, .ref oa), (4, .ref da), (5, .int (nI i))]) (hi : i + 5 ≤ L) (hc9 : cells + 770 ≤ 396424) (hs9 : slots + 15400 ≤ 7906833)
    (K : ∀ (M1 : hw_M) (H1 : Heap) (locs1 : List Loc) (ae1 : hp_ad) (S1 : hs_S) (cells1 slots1 : Nat) (ls1 : Array Slot), hw_iv Z s M1 H1 locs1 → ae1 0 0 = ae 0 0 → lw_ok Z M1 oa da ad ae1 S1 → lv_has ls1 9 [(0, .ref b), (1, .ref (ad 0 0)), (2, .ref (ae 0 0)), (3, .ref oa), (4, .ref da), (5, .int (nI i))] → cells1 ≤ cells + 770 → slots1 ≤ slots + 15400 → W p l e room_1 s m #[Value.ref b] below meth c H1 locs1 cells1 slots1 Q (F0 m 2013 ls1 [])) :
    W p l e room_1 s m #[Value.ref b] below meth c H locs cells slots Q (F0 m 1875 ls []) := by
  obtain ⟨hx, hb, hml, hown, hts, hk, hX, hbl, hbA, hL⟩ := C
  obtain ⟨T, X, f, g, h, hV, ho, hd⟩ := hO
  refine lv_aload_n hx hb dL_law_1875 rfl (lv_at hl 1 rfl) ?_
  refine lv_aload_n hx hb dL_law_1876 rfl (lv_at hl 0 rfl) ?_
  refine lv_iload hx hb dL_law_1877 (lv_at hl 5 rfl) ?_
  refine lv_iconst (v := nI 1) hx hb dL_law_1879 (by decide) ?_
  refine lv_iadd hx hb dL_law_1880 ?_
  refine hw_ti (nI_add _ _) ?_
  refine lw_sld hx hb hX hbl hbA hL hI (j := i + 1) (by first | rfl | exact nI_add _ _ | exact nI_1 _) (by omega) dL_law_1881 ?_
  refine lv_aload_n hx hb dL_law_1882 rfl (lv_at hl 3 rfl) ?_
  refine hw_ci hI (hw_rSH hx hb hml hown hts hk hI (m_L_bestWay l hst Z M ad S T (lw_b oa da ae S X) oa f (xs (i + 1)) h.1 hV.b (Or.inl rfl) ho) cs_L_199 ⟨rfl, rfl⟩ ⟨(Nat.le_of_ble_eq_true rfl), (Nat.le_of_ble_eq_true rfl)⟩ rfl hl.1 rfl (Nat.le_of_ble_eq_true rfl) ⟨by show _ ≤ 396424; omega, by show _ ≤ 7906833; omega⟩ dL_law_1883) (fun r1 M1 H locs hR hI => ?_)
  obtain ⟨e1, T1, f1, h, ho, hv, hd⟩ := lw_w h ho hd hR
  refine lv_istore (lv' := [(6, .int r1), (0, .ref b), (1, .ref (ad 0 0)), (2, .ref (ae 0 0)), (3, .ref oa), (4, .ref da), (5, .int (nI i))]) hx hb dL_law_1886 hl (by decide) rfl (fun ls hl => ?_)
  refine lv_aload_n hx hb dL_law_1888 rfl (lv_at hl 3 rfl) ?_
  refine lv_aload_n hx hb dL_law_1889 rfl (lv_at hl 1 rfl) ?_
  refine lv_iload hx hb dL_law_1890 (lv_at hl 6 rfl) ?_
  refine lv_iconst (v := nI 1) hx hb dL_law_1892 (by decide) ?_
  refine lv_iadd hx hb dL_law_1893 ?_
  refine hw_ti (nI_add _ _) ?_
  refine lw_sld hx hb hX hbl hbA hL hI (j := i + 1) (by first | rfl | exact nI_add _ _ | exact nI_1 _) (by omega) dL_law_1894 ?_
  have he : M1 (ae 0 0) = hr_e0 Z ae S X 0 := h.2.m 0 0 (show 0 < 4 by decide)
  refine hw_ci hI (hw_rV hx hb hml hown hts hk hI (m_X11_bestWay l Z M1 ae S X (lw_c oa da ad) (xs (i + 1)) h.2 hV (lw_A h (by rw [ho]; exact fun q => by cases q) (by rw [hd]; exact fun q => by cases q))) cv_L_201 he rfl rfl ⟨rfl, rfl⟩ ⟨(Nat.le_of_ble_eq_true rfl), (Nat.le_of_ble_eq_true rfl)⟩ rfl hl.1 rfl (Nat.le_of_ble_eq_true rfl) ⟨by show _ ≤ 396424; omega, by show _ ≤ 7906833; omega⟩ dL_law_1895) (fun r2 M2 H locs hR hI => ?_)
  clear he
  obtain ⟨ae1, X1, e0, h, ho, hd, ht, hq⟩ := lw_r h ho hd hR
  have hS : hv_ok (st_bestWay S (xs (i + 1))).2.2 := by rw [ha_bestWay]; exact hV
  have hc : (st_bestWay S (xs (i + 1))).1 ≤ 3 := hc_bestWay S (xs (i + 1))
  refine lv_istore (lv' := [(7, .int r2), (6, .int r1), (0, .ref b), (1, .ref (ad 0 0)), (2, .ref (ae 0 0)), (3, .ref oa), (4, .ref da), (5, .int (nI i))]) hx hb dL_law_1898 hl (by decide) rfl (fun ls hl => ?_)
  refine lv_aload_n hx hb dL_law_1900 rfl (lv_at hl 4 rfl) ?_
  have he : M2 (ae 0 0) = hr_e0 Z ae1 (st_bestWay S (xs (i + 1))).2.2 X1 0 := by rw [← e0]; exact h.2.m 0 0 (show 0 < 4 by decide)
  refine hw_ci hI (hw_rV hx hb hml hown hts hk hI (m_X11_thrown l Z M2 (ae 0 0) _ _ _ _ _ _ he) cv_L_115 he rfl rfl ⟨rfl, rfl⟩ ⟨(Nat.le_of_ble_eq_true rfl), (Nat.le_of_ble_eq_true rfl)⟩ rfl hl.1 rfl (Nat.le_of_ble_eq_true rfl) ⟨by show _ ≤ 396424; omega, by show _ ≤ 7906833; omega⟩ dL_law_1901) (fun r3 M3 H locs hR hI => ?_)
  obtain ⟨e3, rfl⟩ := hR
  refine lv_iload hx hb dL_law_1904 (lv_at hl 1 rfl) ?_
  refine lv_icmp_eq (tgt := 1911) hx hb dL_law_1906 (by decide) (fun _ => ?_) (fun hc => absurd (e3.symm.trans (ht.trans e1)) hc)
  refine lv_iload hx hb dL_law_1911 (lv_at hl 1 rfl) ?_
  refine lv_if_ne (tgt := 1928) hx hb dL_law_1913 (by decide) (fun c1913 => ?_) (fun c1913 => ?_)
  · refine lv_goto (tgt := 2013) hx hb dL_law_1928 (by decide) ?_
    exact K M2 H locs ae1 (st_bestWay S (xs (i + 1))).2.2 _ _ ls hI e0 ⟨T1, X1, f1, g, h, hS, ho, hd⟩ (lv_sub hl [2, 3, 4, 5, 6, 7] rfl) (by omega) (by omega)
  · have o0 : (st_bestWay S (xs (i + 1))).1 = 0 := (hc_0 hc).mp (e1.trans c1913)
    have hv0 := hv o0
    have hq0 := hq o0
    refine lv_aload_n hx hb dL_law_1916 rfl (lv_at hl 5 rfl) ?_
    refine lv_iconst (v := nI 0) hx hb dL_law_1917 (by decide) ?_
    refine hw_lald hx hb hk hI ho (j := 0) rfl (by omega) (by decide) dL_law_1918 ?_
    refine lv_iload hx hb dL_law_1919 (lv_at hl 0 rfl) ?_
    refine lv_i2l (v := r2.toInt64) hx hb dL_law_1921 rfl ?_
    refine W.lcmp hx hb dL_law_1922 ?_
    refine lv_if_eq (tgt := 1928) hx hb dL_law_1923 (by decide) (fun _ => ?_) (fun hc => absurd ((lg_cmp_eq _ _).mpr (hv0.trans (congrArg (fun x => x.toInt64) hq0))) hc)
    refine lv_goto (tgt := 2013) hx hb dL_law_1928 (by decide) ?_
    exact K M2 H locs ae1 (st_bestWay S (xs (i + 1))).2.2 _ _ ls hI e0 ⟨T1, X1, f1, g, h, hS, ho, hd⟩ (lv_sub hl [2, 3, 4, 5, 6, 7] rfl) (by omega) (by omega)

set_option maxHeartbeats 4000000 in
set_option maxRecDepth 100000 in
theorem lc_26 {p : Program} {l : Launch} {e : Env} {s : State} {m : MethodId} {below : List Frame} {meth : Method} {c : Code} {H : Heap} {locs : List Loc} {cells slots : Nat} {Q : State → Prop} {ls : Array Slot} {Z : hw_Z} {M : hw_M} {b L i oa da : Nat} {xs : Nat → Int32} {ad ae : hp_ad} {S : hs_S} (hst : l.stackTraces = false) (C : lw_cx p s m c Z b L xs) (hI : hw_iv Z s M H locs) (hO : lw_ok Z M oa da ad ae S) (hl : lv_has ls 9 [(0, .ref b), (1, .ref (ad 0 0)), (2, .ref (ae 0 0)), (3, .ref oa), (4, .ref da), (5, .int (nI i))]) (hi : i + 5 ≤ L) (hc9 : cells + 770 ≤ 396424) (hs9 : slots + 15400 ≤ 7906833)
    (K : ∀ (M1 : hw_M) (H1 : Heap) (locs1 : List Loc) (ae1 : hp_ad) (S1 : hs_S) (cells1 slots1 : Nat) (ls1 : Array Slot), hw_iv Z s M1 H1 locs1 → ae1 0 0 = ae 0 0 → lw_ok Z M1 oa da ad ae1 S1 → lv_has ls1 9 [(0, .ref b), (1, .ref (ad 0 0)), (2, .ref (ae 0 0)), (3, .ref oa), (4, .ref da), (5, .int (nI i))] → cells1 ≤ cells + 770 → slots1 ≤ slots + 15400 → W p l e room_1 s m #[Value.ref b] below meth c H1 locs1 cells1 slots1 Q (F0 m 2013 ls1 [])) :
    W p l e room_1 s m #[Value.ref b] below meth c H locs cells slots Q (F0 m 1931 ls []) := by
  obtain ⟨hx, hb, hml, hown, hts, hk, hX, hbl, hbA, hL⟩ := C
  obtain ⟨T, X, f, g, h, hV, ho, hd⟩ := hO
  refine lv_aload_n hx hb dL_law_1931 rfl (lv_at hl 1 rfl) ?_
  refine lv_aload_n hx hb dL_law_1932 rfl (lv_at hl 0 rfl) ?_
  refine lv_iload hx hb dL_law_1933 (lv_at hl 5 rfl) ?_
  refine lv_iconst (v := nI 1) hx hb dL_law_1935 (by decide) ?_
  refine lv_iadd hx hb dL_law_1936 ?_
  refine hw_ti (nI_add _ _) ?_
  refine lw_sld hx hb hX hbl hbA hL hI (j := i + 1) (by first | rfl | exact nI_add _ _ | exact nI_1 _) (by omega) dL_law_1937 ?_
  refine lv_aload_n hx hb dL_law_1938 rfl (lv_at hl 0 rfl) ?_
  refine lv_iload hx hb dL_law_1939 (lv_at hl 5 rfl) ?_
  refine lv_iconst (v := nI 2) hx hb dL_law_1941 (by decide) ?_
  refine lv_iadd hx hb dL_law_1942 ?_
  refine hw_ti (nI_add _ _) ?_
  refine lw_sld hx hb hX hbl hbA hL hI (j := i + 2) (by first | rfl | exact nI_add _ _ | exact nI_1 _) (by omega) dL_law_1943 ?_
  refine lv_aload_n hx hb dL_law_1944 rfl (lv_at hl 3 rfl) ?_
  refine hw_ci hI (hw_rSH hx hb hml hown hts hk hI (m_L_bestSpeed l hst Z M ad S T (lw_b oa da ae S X) oa f (xs (i + 1)) (xs (i + 2)) h.1 hV.b (Or.inl rfl) ho) cs_L_202 ⟨rfl, rfl⟩ ⟨(Nat.le_of_ble_eq_true rfl), (Nat.le_of_ble_eq_true rfl)⟩ rfl hl.1 rfl (Nat.le_of_ble_eq_true rfl) ⟨by show _ ≤ 396424; omega, by show _ ≤ 7906833; omega⟩ dL_law_1945) (fun r1 M1 H locs hR hI => ?_)
  obtain ⟨e1, T1, f1, h, ho, hv, hd⟩ := lw_w h ho hd hR
  refine lv_istore (lv' := [(6, .int r1), (0, .ref b), (1, .ref (ad 0 0)), (2, .ref (ae 0 0)), (3, .ref oa), (4, .ref da), (5, .int (nI i))]) hx hb dL_law_1948 hl (by decide) rfl (fun ls hl => ?_)
  refine lv_aload_n hx hb dL_law_1950 rfl (lv_at hl 3 rfl) ?_
  refine lv_aload_n hx hb dL_law_1951 rfl (lv_at hl 1 rfl) ?_
  refine lv_iload hx hb dL_law_1952 (lv_at hl 6 rfl) ?_
  refine lv_iconst (v := nI 1) hx hb dL_law_1954 (by decide) ?_
  refine lv_iadd hx hb dL_law_1955 ?_
  refine hw_ti (nI_add _ _) ?_
  refine lw_sld hx hb hX hbl hbA hL hI (j := i + 1) (by first | rfl | exact nI_add _ _ | exact nI_1 _) (by omega) dL_law_1956 ?_
  refine lv_aload_n hx hb dL_law_1957 rfl (lv_at hl 1 rfl) ?_
  refine lv_iload hx hb dL_law_1958 (lv_at hl 6 rfl) ?_
  refine lv_iconst (v := nI 2) hx hb dL_law_1960 (by decide) ?_
  refine lv_iadd hx hb dL_law_1961 ?_
  refine hw_ti (nI_add _ _) ?_
  refine lw_sld hx hb hX hbl hbA hL hI (j := i + 2) (by first | rfl | exact nI_add _ _ | exact nI_1 _) (by omega) dL_law_1962 ?_
  have he : M1 (ae 0 0) = hr_e0 Z ae S X 0 := h.2.m 0 0 (show 0 < 4 by decide)
  refine hw_ci hI (hw_rV hx hb hml hown hts hk hI (m_X11_bestSpeed l Z M1 ae S X (lw_c oa da ad) (xs (i + 1)) (xs (i + 2)) h.2 hV (lw_A h (by rw [ho]; exact fun q => by cases q) (by rw [hd]; exact fun q => by cases q))) cv_L_204 he rfl rfl ⟨rfl, rfl⟩ ⟨(Nat.le_of_ble_eq_true rfl), (Nat.le_of_ble_eq_true rfl)⟩ rfl hl.1 rfl (Nat.le_of_ble_eq_true rfl) ⟨by show _ ≤ 396424; omega, by show _ ≤ 7906833; omega⟩ dL_law_1963) (fun r2 M2 H locs hR hI => ?_)
  clear he
  obtain ⟨ae1, X1, e0, h, ho, hd, ht, hq⟩ := lw_r h ho hd hR
  have hS : hv_ok (st_bestSpeed S (xs (i + 1)) (xs (i + 2))).2.2 := by rw [ha_bestSpeed]; exact hV
  have hc : (st_bestSpeed S (xs (i + 1)) (xs (i + 2))).1 ≤ 3 := hc_bestSpeed S (xs (i + 1)) (xs (i + 2))
  refine lv_istore (lv' := [(7, .int r2), (6, .int r1), (0, .ref b), (1, .ref (ad 0 0)), (2, .ref (ae 0 0)), (3, .ref oa), (4, .ref da), (5, .int (nI i))]) hx hb dL_law_1966 hl (by decide) rfl (fun ls hl => ?_)
  refine lv_aload_n hx hb dL_law_1968 rfl (lv_at hl 4 rfl) ?_
  have he : M2 (ae 0 0) = hr_e0 Z ae1 (st_bestSpeed S (xs (i + 1)) (xs (i + 2))).2.2 X1 0 := by rw [← e0]; exact h.2.m 0 0 (show 0 < 4 by decide)
  refine hw_ci hI (hw_rV hx hb hml hown hts hk hI (m_X11_thrown l Z M2 (ae 0 0) _ _ _ _ _ _ he) cv_L_115 he rfl rfl ⟨rfl, rfl⟩ ⟨(Nat.le_of_ble_eq_true rfl), (Nat.le_of_ble_eq_true rfl)⟩ rfl hl.1 rfl (Nat.le_of_ble_eq_true rfl) ⟨by show _ ≤ 396424; omega, by show _ ≤ 7906833; omega⟩ dL_law_1969) (fun r3 M3 H locs hR hI => ?_)
  obtain ⟨e3, rfl⟩ := hR
  refine lv_iload hx hb dL_law_1972 (lv_at hl 1 rfl) ?_
  refine lv_icmp_eq (tgt := 1979) hx hb dL_law_1974 (by decide) (fun _ => ?_) (fun hc => absurd (e3.symm.trans (ht.trans e1)) hc)
  refine lv_iload hx hb dL_law_1979 (lv_at hl 1 rfl) ?_
  refine lv_if_ne (tgt := 1996) hx hb dL_law_1981 (by decide) (fun c1981 => ?_) (fun c1981 => ?_)
  · refine lv_goto (tgt := 2013) hx hb dL_law_1996 (by decide) ?_
    exact K M2 H locs ae1 (st_bestSpeed S (xs (i + 1)) (xs (i + 2))).2.2 _ _ ls hI e0 ⟨T1, X1, f1, g, h, hS, ho, hd⟩ (lv_sub hl [2, 3, 4, 5, 6, 7] rfl) (by omega) (by omega)
  · have o0 : (st_bestSpeed S (xs (i + 1)) (xs (i + 2))).1 = 0 := (hc_0 hc).mp (e1.trans c1981)
    have hv0 := hv o0
    have hq0 := hq o0
    refine lv_aload_n hx hb dL_law_1984 rfl (lv_at hl 5 rfl) ?_
    refine lv_iconst (v := nI 0) hx hb dL_law_1985 (by decide) ?_
    refine hw_lald hx hb hk hI ho (j := 0) rfl (by omega) (by decide) dL_law_1986 ?_
    refine lv_iload hx hb dL_law_1987 (lv_at hl 0 rfl) ?_
    refine lv_i2l (v := r2.toInt64) hx hb dL_law_1989 rfl ?_
    refine W.lcmp hx hb dL_law_1990 ?_
    refine lv_if_eq (tgt := 1996) hx hb dL_law_1991 (by decide) (fun _ => ?_) (fun hc => absurd ((lg_cmp_eq _ _).mpr (hv0.trans (congrArg (fun x => x.toInt64) hq0))) hc)
    refine lv_goto (tgt := 2013) hx hb dL_law_1996 (by decide) ?_
    exact K M2 H locs ae1 (st_bestSpeed S (xs (i + 1)) (xs (i + 2))).2.2 _ _ ls hI e0 ⟨T1, X1, f1, g, h, hS, ho, hd⟩ (lv_sub hl [2, 3, 4, 5, 6, 7] rfl) (by omega) (by omega)
