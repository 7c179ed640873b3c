theorem vwL_189 : ax_VW RL 189 yL_thrown cL_thrown 5 (some (.int)) [(13, 31, 32, 128), (13, 31, 36, 130), (13, 31, 40, 132)] 3 := ⟨kw_1007, kw_1008, kw_884, kw_1009, by decide +kernel⟩
