/-! cross: bad arguments; good ones -/
abbrev C_x_X10_isOneOfTwo_c0 : CE := ([(0, -2147483648, -1)], [], [], [(some (0, 0, 0), [], [], [])], [], 0, 0)
theorem ac_x_X10_isOneOfTwo_c0 (l : Launch) (G : KG) : ACt l G TX yX10_isOneOfTwo cX10_isOneOfTwo 1 (some .boolean) C_x_X10_isOneOfTwo_c0 := acert (tab := D_X10_isOneOfTwo) (fld := fld_10) (put := put_10) (cst := cst_10) (cstl := cstl_10) (cal := []) (rk := 3) (cuts := []) (fuel := 4000) (by decide) (Or.inr (Or.inr (Or.inr ⟨rfl, rfl⟩))) fld_10_ok put_10_ok cst_10_ok cstl_10_ok (fun _ h => absurd h List.not_mem_nil) D_X10_isOneOfTwo_ok (by decide +kernel)
abbrev C_x_X10_cross_1 : CE := ([(2, 0, 0), (0, -2147483648, -1), (0, -2147483648, 2147483647), (0, -2147483648, 2147483647)], [], [], [(some (0, -1, -1), [], [], [])], [], 1, 20)
theorem ac_x_X10_cross_1 (l : Launch) (G : KG) : ACt l G TX yX10_cross cX10_cross 5 (some .int) C_x_X10_cross_1 := acert (tab := D_X10_cross) (fld := fld_10) (put := put_10) (cst := cst_10) (cstl := cstl_10) (cal := [(156, 1, 1, C_x_X10_isOneOfTwo_c0)]) (rk := 1) (cuts := []) (fuel := 4000) (by decide) (Or.inr (Or.inl ⟨rfl, rfl⟩)) fld_10_ok put_10_ok cst_10_ok cstl_10_ok (List.forall_mem_cons.mpr ⟨cok_s k_10_156 (ac_x_X10_isOneOfTwo_c0 l G) rfl, fun _ h => absurd h List.not_mem_nil⟩) D_X10_cross_ok (by decide +kernel)
abbrev C_x_X11_in_c0 : CE := ([(1, -2147483648, -1), (1, 0, 0), (1, 1, 1)], [], [], [(some (0, 0, 0), [], [], [])], [], 0, 0)
theorem ac_x_X11_in_c0 (l : Launch) (G : KG) : ACt l G TM yX11_in cX11_in 6 (some .boolean) C_x_X11_in_c0 := acert (tab := D_X11_in) (fld := fld_11) (put := put_11) (cst := cst_11) (cstl := cstl_11) (cal := []) (rk := 3) (cuts := []) (fuel := 4000) (by decide) (Or.inr (Or.inr (Or.inr ⟨rfl, rfl⟩))) fld_11_ok put_11_ok cst_11_ok cstl_11_ok (fun _ h => absurd h List.not_mem_nil) D_X11_in_ok (by decide +kernel)
abbrev C_x_X11_isPlane_c0 : CE := ([(0, -2147483648, -1)], [], [], [(some (0, 0, 0), [], [], [])], [], 1, 25)
theorem ac_x_X11_isPlane_c0 (l : Launch) (G : KG) : ACt l G TM yX11_isPlane cX11_isPlane 1 (some .boolean) C_x_X11_isPlane_c0 := acert (tab := D_X11_isPlane) (fld := fld_11) (put := put_11) (cst := cst_11) (cstl := cstl_11) (cal := [(29, 1, 6, C_x_X11_in_c0)]) (rk := 3) (cuts := []) (fuel := 4000) (by decide) (Or.inr (Or.inr (Or.inr ⟨rfl, rfl⟩))) fld_11_ok put_11_ok cst_11_ok cstl_11_ok (List.forall_mem_cons.mpr ⟨cok_s k_11_29 (ac_x_X11_in_c0 l G) rfl, fun _ h => absurd h List.not_mem_nil⟩) D_X11_isPlane_ok (by decide +kernel)
abbrev C_x_X11_cross_1 : CE := ([(2, 0, 0), (0, -2147483648, -1), (0, -2147483648, 2147483647), (0, -2147483648, 2147483647)], [], [], [(some (0, -1, -1), [], [(0, 0, (0, 0, 0))], [])], [(0, 0)], 2, 45)
theorem ac_x_X11_cross_1 (l : Launch) (G : KG) : ACt l G TM yX11_cross cX11_cross 5 (some .int) C_x_X11_cross_1 := acert (tab := D_X11_cross) (fld := fld_11) (put := put_11) (cst := cst_11) (cstl := cstl_11) (cal := [(130, 1, 1, C_x_X11_isPlane_c0)]) (rk := 1) (cuts := []) (fuel := 4000) (by decide) (Or.inr (Or.inl ⟨rfl, rfl⟩)) fld_11_ok put_11_ok cst_11_ok cstl_11_ok (List.forall_mem_cons.mpr ⟨cok_s k_11_130 (ac_x_X11_isPlane_c0 l G) rfl, fun _ h => absurd h List.not_mem_nil⟩) D_X11_cross_ok (by decide +kernel)
abbrev C_x_X10_isOneOfTwo_c1 : CE := ([(0, 2, 2147483647)], [], [], [(some (0, 0, 0), [], [], [])], [], 0, 0)
theorem ac_x_X10_isOneOfTwo_c1 (l : Launch) (G : KG) : ACt l G TX yX10_isOneOfTwo cX10_isOneOfTwo 1 (some .boolean) C_x_X10_isOneOfTwo_c1 := acert (tab := D_X10_isOneOfTwo) (fld := fld_10) (put := put_10) (cst := cst_10) (cstl := cstl_10) (cal := []) (rk := 3) (cuts := []) (fuel := 4000) (by decide) (Or.inr (Or.inr (Or.inr ⟨rfl, rfl⟩))) fld_10_ok put_10_ok cst_10_ok cstl_10_ok (fun _ h => absurd h List.not_mem_nil) D_X10_isOneOfTwo_ok (by decide +kernel)
abbrev C_x_X10_cross_2 : CE := ([(2, 0, 0), (0, 2, 2147483647), (0, -2147483648, 2147483647), (0, -2147483648, 2147483647)], [], [], [(some (0, -1, -1), [], [], [])], [], 1, 20)
theorem ac_x_X10_cross_2 (l : Launch) (G : KG) : ACt l G TX yX10_cross cX10_cross 5 (some .int) C_x_X10_cross_2 := acert (tab := D_X10_cross) (fld := fld_10) (put := put_10) (cst := cst_10) (cstl := cstl_10) (cal := [(156, 1, 1, C_x_X10_isOneOfTwo_c1)]) (rk := 1) (cuts := []) (fuel := 4000) (by decide) (Or.inr (Or.inl ⟨rfl, rfl⟩)) fld_10_ok put_10_ok cst_10_ok cstl_10_ok (List.forall_mem_cons.mpr ⟨cok_s k_10_156 (ac_x_X10_isOneOfTwo_c1 l G) rfl, fun _ h => absurd h List.not_mem_nil⟩) D_X10_cross_ok (by decide +kernel)
abbrev C_x_X11_in_c1 : CE := ([(1, 2, 2147483647), (1, 0, 0), (1, 1, 1)], [], [], [(some (0, 0, 0), [], [], [])], [], 0, 0)
theorem ac_x_X11_in_c1 (l : Launch) (G : KG) : ACt l G TM yX11_in cX11_in 6 (some .boolean) C_x_X11_in_c1 := acert (tab := D_X11_in) (fld := fld_11) (put := put_11) (cst := cst_11) (cstl := cstl_11) (cal := []) (rk := 3) (cuts := []) (fuel := 4000) (by decide) (Or.inr (Or.inr (Or.inr ⟨rfl, rfl⟩))) fld_11_ok put_11_ok cst_11_ok cstl_11_ok (fun _ h => absurd h List.not_mem_nil) D_X11_in_ok (by decide +kernel)
abbrev C_x_X11_isPlane_c1 : CE := ([(0, 2, 2147483647)], [], [], [(some (0, 0, 0), [], [], [])], [], 1, 25)
theorem ac_x_X11_isPlane_c1 (l : Launch) (G : KG) : ACt l G TM yX11_isPlane cX11_isPlane 1 (some .boolean) C_x_X11_isPlane_c1 := acert (tab := D_X11_isPlane) (fld := fld_11) (put := put_11) (cst := cst_11) (cstl := cstl_11) (cal := [(29, 1, 6, C_x_X11_in_c1)]) (rk := 3) (cuts := []) (fuel := 4000) (by decide) (Or.inr (Or.inr (Or.inr ⟨rfl, rfl⟩))) fld_11_ok put_11_ok cst_11_ok cstl_11_ok (List.forall_mem_cons.mpr ⟨cok_s k_11_29 (ac_x_X11_in_c1 l G) rfl, fun _ h => absurd h List.not_mem_nil⟩) D_X11_isPlane_ok (by decide +kernel)
abbrev C_x_X11_cross_2 : CE := ([(2, 0, 0), (0, 2, 2147483647), (0, -2147483648, 2147483647), (0, -2147483648, 2147483647)], [], [], [(some (0, -1, -1), [], [(0, 0, (0, 0, 0))], [])], [(0, 0)], 2, 45)
theorem ac_x_X11_cross_2 (l : Launch) (G : KG) : ACt l G TM yX11_cross cX11_cross 5 (some .int) C_x_X11_cross_2 := acert (tab := D_X11_cross) (fld := fld_11) (put := put_11) (cst := cst_11) (cstl := cstl_11) (cal := [(130, 1, 1, C_x_X11_isPlane_c1)]) (rk := 1) (cuts := []) (fuel := 4000) (by decide) (Or.inr (Or.inl ⟨rfl, rfl⟩)) fld_11_ok put_11_ok cst_11_ok cstl_11_ok (List.forall_mem_cons.mpr ⟨cok_s k_11_130 (ac_x_X11_isPlane_c1 l G) rfl, fun _ h => absurd h List.not_mem_nil⟩) D_X11_cross_ok (by decide +kernel)
abbrev C_x_X10_isOneOfTwo_c2 : CE := ([(0, 0, 1)], [], [], [(some (0, 1, 1), [], [], [])], [], 0, 0)
theorem ac_x_X10_isOneOfTwo_c2 (l : Launch) (G : KG) : ACt l G TX yX10_isOneOfTwo cX10_isOneOfTwo 1 (some .boolean) C_x_X10_isOneOfTwo_c2 := acert (tab := D_X10_isOneOfTwo) (fld := fld_10) (put := put_10) (cst := cst_10) (cstl := cstl_10) (cal := []) (rk := 3) (cuts := []) (fuel := 4000) (by decide) (Or.inr (Or.inr (Or.inr ⟨rfl, rfl⟩))) fld_10_ok put_10_ok cst_10_ok cstl_10_ok (fun _ h => absurd h List.not_mem_nil) D_X10_isOneOfTwo_ok (by decide +kernel)
abbrev C_x_X10_cross_3 : CE := ([(2, 0, 0), (0, 0, 1), (0, -2147483648, -1), (0, -2147483648, 2147483647)], [], [], [(some (0, -1, -1), [], [], [])], [], 1, 20)
theorem ac_x_X10_cross_3 (l : Launch) (G : KG) : ACt l G TX yX10_cross cX10_cross 5 (some .int) C_x_X10_cross_3 := acert (tab := D_X10_cross) (fld := fld_10) (put := put_10) (cst := cst_10) (cstl := cstl_10) (cal := [(156, 1, 1, C_x_X10_isOneOfTwo_c2), (156, 1, 1, C_x_X10_isOneOfTwo_c0)]) (rk := 1) (cuts := []) (fuel := 4000) (by decide) (Or.inr (Or.inl ⟨rfl, rfl⟩)) fld_10_ok put_10_ok cst_10_ok cstl_10_ok (List.forall_mem_cons.mpr ⟨cok_s k_10_156 (ac_x_X10_isOneOfTwo_c2 l G) rfl, List.forall_mem_cons.mpr ⟨cok_s k_10_156 (ac_x_X10_isOneOfTwo_c0 l G) rfl, fun _ h => absurd h List.not_mem_nil⟩⟩) D_X10_cross_ok (by decide +kernel)
abbrev C_x_X11_in_c2 : CE := ([(1, 0, 1), (1, 0, 0), (1, 1, 1)], [], [], [(some (0, 1, 1), [], [], [])], [], 0, 0)
theorem ac_x_X11_in_c2 (l : Launch) (G : KG) : ACt l G TM yX11_in cX11_in 6 (some .boolean) C_x_X11_in_c2 := acert (tab := D_X11_in) (fld := fld_11) (put := put_11) (cst := cst_11) (cstl := cstl_11) (cal := []) (rk := 3) (cuts := []) (fuel := 4000) (by decide) (Or.inr (Or.inr (Or.inr ⟨rfl, rfl⟩))) fld_11_ok put_11_ok cst_11_ok cstl_11_ok (fun _ h => absurd h List.not_mem_nil) D_X11_in_ok (by decide +kernel)
abbrev C_x_X11_isPlane_c2 : CE := ([(0, 0, 1)], [], [], [(some (0, 1, 1), [], [], [])], [], 1, 25)
theorem ac_x_X11_isPlane_c2 (l : Launch) (G : KG) : ACt l G TM yX11_isPlane cX11_isPlane 1 (some .boolean) C_x_X11_isPlane_c2 := acert (tab := D_X11_isPlane) (fld := fld_11) (put := put_11) (cst := cst_11) (cstl := cstl_11) (cal := [(29, 1, 6, C_x_X11_in_c2)]) (rk := 3) (cuts := []) (fuel := 4000) (by decide) (Or.inr (Or.inr (Or.inr ⟨rfl, rfl⟩))) fld_11_ok put_11_ok cst_11_ok cstl_11_ok (List.forall_mem_cons.mpr ⟨cok_s k_11_29 (ac_x_X11_in_c2 l G) rfl, fun _ h => absurd h List.not_mem_nil⟩) D_X11_isPlane_ok (by decide +kernel)
abbrev C_x_X11_cross_3 : CE := ([(2, 0, 0), (0, 0, 1), (0, -2147483648, -1), (0, -2147483648, 2147483647)], [], [], [(some (0, -1, -1), [], [(0, 0, (0, 0, 0))], [])], [(0, 0)], 2, 45)
theorem ac_x_X11_cross_3 (l : Launch) (G : KG) : ACt l G TM yX11_cross cX11_cross 5 (some .int) C_x_X11_cross_3 := acert (tab := D_X11_cross) (fld := fld_11) (put := put_11) (cst := cst_11) (cstl := cstl_11) (cal := [(130, 1, 1, C_x_X11_isPlane_c2), (130, 1, 1, C_x_X11_isPlane_c0)]) (rk := 1) (cuts := []) (fuel := 4000) (by decide) (Or.inr (Or.inl ⟨rfl, rfl⟩)) fld_11_ok put_11_ok cst_11_ok cstl_11_ok (List.forall_mem_cons.mpr ⟨cok_s k_11_130 (ac_x_X11_isPlane_c2 l G) rfl, List.forall_mem_cons.mpr ⟨cok_s k_11_130 (ac_x_X11_isPlane_c0 l G) rfl, fun _ h => absurd h List.not_mem_nil⟩⟩) D_X11_cross_ok (by decide +kernel)
abbrev C_x_X10_cross_4 : CE := ([(2, 0, 0), (0, 0, 1), (0, 2, 2147483647), (0, -2147483648, 2147483647)], [], [], [(some (0, -1, -1), [], [], [])], [], 1, 20)
theorem ac_x_X10_cross_4 (l : Launch) (G : KG) : ACt l G TX yX10_cross cX10_cross 5 (some .int) C_x_X10_cross_4 := acert (tab := D_X10_cross) (fld := fld_10) (put := put_10) (cst := cst_10) (cstl := cstl_10) (cal := [(156, 1, 1, C_x_X10_isOneOfTwo_c2), (156, 1, 1, C_x_X10_isOneOfTwo_c1)]) (rk := 1) (cuts := []) (fuel := 4000) (by decide) (Or.inr (Or.inl ⟨rfl, rfl⟩)) fld_10_ok put_10_ok cst_10_ok cstl_10_ok (List.forall_mem_cons.mpr ⟨cok_s k_10_156 (ac_x_X10_isOneOfTwo_c2 l G) rfl, List.forall_mem_cons.mpr ⟨cok_s k_10_156 (ac_x_X10_isOneOfTwo_c1 l G) rfl, fun _ h => absurd h List.not_mem_nil⟩⟩) D_X10_cross_ok (by decide +kernel)
abbrev C_x_X11_cross_4 : CE := ([(2, 0, 0), (0, 0, 1), (0, 2, 2147483647), (0, -2147483648, 2147483647)], [], [], [(some (0, -1, -1), [], [(0, 0, (0, 0, 0))], [])], [(0, 0)], 2, 45)
theorem ac_x_X11_cross_4 (l : Launch) (G : KG) : ACt l G TM yX11_cross cX11_cross 5 (some .int) C_x_X11_cross_4 := acert (tab := D_X11_cross) (fld := fld_11) (put := put_11) (cst := cst_11) (cstl := cstl_11) (cal := [(130, 1, 1, C_x_X11_isPlane_c2), (130, 1, 1, C_x_X11_isPlane_c1)]) (rk := 1) (cuts := []) (fuel := 4000) (by decide) (Or.inr (Or.inl ⟨rfl, rfl⟩)) fld_11_ok put_11_ok cst_11_ok cstl_11_ok (List.forall_mem_cons.mpr ⟨cok_s k_11_130 (ac_x_X11_isPlane_c2 l G) rfl, List.forall_mem_cons.mpr ⟨cok_s k_11_130 (ac_x_X11_isPlane_c1 l G) rfl, fun _ h => absurd h List.not_mem_nil⟩⟩) D_X11_cross_ok (by decide +kernel)
abbrev C_x_X10_isWithin_c0 : CE := ([(0, -2147483648, -10), (0, 9, 9)], [], [], [(some (0, 0, 0), [], [], [])], [], 0, 0)
theorem ac_x_X10_isWithin_c0 (l : Launch) (G : KG) : ACt l G TX yX10_isWithin cX10_isWithin 2 (some .boolean) C_x_X10_isWithin_c0 := acert (tab := D_X10_isWithin) (fld := fld_10) (put := put_10) (cst := cst_10) (cstl := cstl_10) (cal := []) (rk := 3) (cuts := []) (fuel := 4000) (by decide) (Or.inr (Or.inr (Or.inr ⟨rfl, rfl⟩))) fld_10_ok put_10_ok cst_10_ok cstl_10_ok (fun _ h => absurd h List.not_mem_nil) D_X10_isWithin_ok (by decide +kernel)
abbrev C_x_X10_cross_5 : CE := ([(2, 0, 0), (0, 0, 1), (0, 0, 1), (0, -2147483648, -10)], [], [], [(some (0, -1, -1), [], [], [])], [], 1, 21)
theorem ac_x_X10_cross_5 (l : Launch) (G : KG) : ACt l G TX yX10_cross cX10_cross 5 (some .int) C_x_X10_cross_5 := acert (tab := D_X10_cross) (fld := fld_10) (put := put_10) (cst := cst_10) (cstl := cstl_10) (cal := [(156, 1, 1, C_x_X10_isOneOfTwo_c2), (159, 1, 2, C_x_X10_isWithin_c0)]) (rk := 1) (cuts := []) (fuel := 4000) (by decide) (Or.inr (Or.inl ⟨rfl, rfl⟩)) fld_10_ok put_10_ok cst_10_ok cstl_10_ok (List.forall_mem_cons.mpr ⟨cok_s k_10_156 (ac_x_X10_isOneOfTwo_c2 l G) rfl, List.forall_mem_cons.mpr ⟨cok_s k_10_159 (ac_x_X10_isWithin_c0 l G) rfl, fun _ h => absurd h List.not_mem_nil⟩⟩) D_X10_cross_ok (by decide +kernel)
abbrev C_x_X11_in_c3 : CE := ([(1, -2147483648, -10), (1, -9, -9), (1, 9, 9)], [], [], [(some (0, 0, 0), [], [], [])], [], 0, 0)
theorem ac_x_X11_in_c3 (l : Launch) (G : KG) : ACt l G TM yX11_in cX11_in 6 (some .boolean) C_x_X11_in_c3 := acert (tab := D_X11_in) (fld := fld_11) (put := put_11) (cst := cst_11) (cstl := cstl_11) (cal := []) (rk := 3) (cuts := []) (fuel := 4000) (by decide) (Or.inr (Or.inr (Or.inr ⟨rfl, rfl⟩))) fld_11_ok put_11_ok cst_11_ok cstl_11_ok (fun _ h => absurd h List.not_mem_nil) D_X11_in_ok (by decide +kernel)
abbrev C_x_X11_cross_5 : CE := ([(2, 0, 0), (0, 0, 1), (0, 0, 1), (0, -2147483648, -10)], [], [], [(some (0, -1, -1), [], [(0, 0, (0, 0, 0))], [])], [(0, 0)], 2, 45)
theorem ac_x_X11_cross_5 (l : Launch) (G : KG) : ACt l G TM yX11_cross cX11_cross 5 (some .int) C_x_X11_cross_5 := acert (tab := D_X11_cross) (fld := fld_11) (put := put_11) (cst := cst_11) (cstl := cstl_11) (cal := [(130, 1, 1, C_x_X11_isPlane_c2), (29, 1, 6, C_x_X11_in_c3)]) (rk := 1) (cuts := []) (fuel := 4000) (by decide) (Or.inr (Or.inl ⟨rfl, rfl⟩)) fld_11_ok put_11_ok cst_11_ok cstl_11_ok (List.forall_mem_cons.mpr ⟨cok_s k_11_130 (ac_x_X11_isPlane_c2 l G) rfl, List.forall_mem_cons.mpr ⟨cok_s k_11_29 (ac_x_X11_in_c3 l G) rfl, fun _ h => absurd h List.not_mem_nil⟩⟩) D_X11_cross_ok (by decide +kernel)
abbrev C_x_X10_isWithin_c1 : CE := ([(0, 10, 2147483647), (0, 9, 9)], [], [], [(some (0, 0, 0), [], [], [])], [], 0, 0)
theorem ac_x_X10_isWithin_c1 (l : Launch) (G : KG) : ACt l G TX yX10_isWithin cX10_isWithin 2 (some .boolean) C_x_X10_isWithin_c1 := acert (tab := D_X10_isWithin) (fld := fld_10) (put := put_10) (cst := cst_10) (cstl := cstl_10) (cal := []) (rk := 3) (cuts := []) (fuel := 4000) (by decide) (Or.inr (Or.inr (Or.inr ⟨rfl, rfl⟩))) fld_10_ok put_10_ok cst_10_ok cstl_10_ok (fun _ h => absurd h List.not_mem_nil) D_X10_isWithin_ok (by decide +kernel)
abbrev C_x_X10_cross_6 : CE := ([(2, 0, 0), (0, 0, 1), (0, 0, 1), (0, 10, 2147483647)], [], [], [(some (0, -1, -1), [], [], [])], [], 1, 21)
theorem ac_x_X10_cross_6 (l : Launch) (G : KG) : ACt l G TX yX10_cross cX10_cross 5 (some .int) C_x_X10_cross_6 := acert (tab := D_X10_cross) (fld := fld_10) (put := put_10) (cst := cst_10) (cstl := cstl_10) (cal := [(156, 1, 1, C_x_X10_isOneOfTwo_c2), (159, 1, 2, C_x_X10_isWithin_c1)]) (rk := 1) (cuts := []) (fuel := 4000) (by decide) (Or.inr (Or.inl ⟨rfl, rfl⟩)) fld_10_ok put_10_ok cst_10_ok cstl_10_ok (List.forall_mem_cons.mpr ⟨cok_s k_10_156 (ac_x_X10_isOneOfTwo_c2 l G) rfl, List.forall_mem_cons.mpr ⟨cok_s k_10_159 (ac_x_X10_isWithin_c1 l G) rfl, fun _ h => absurd h List.not_mem_nil⟩⟩) D_X10_cross_ok (by decide +kernel)
abbrev C_x_X11_in_c4 : CE := ([(1, 10, 2147483647), (1, -9, -9), (1, 9, 9)], [], [], [(some (0, 0, 0), [], [], [])], [], 0, 0)
theorem ac_x_X11_in_c4 (l : Launch) (G : KG) : ACt l G TM yX11_in cX11_in 6 (some .boolean) C_x_X11_in_c4 := acert (tab := D_X11_in) (fld := fld_11) (put := put_11) (cst := cst_11) (cstl := cstl_11) (cal := []) (rk := 3) (cuts := []) (fuel := 4000) (by decide) (Or.inr (Or.inr (Or.inr ⟨rfl, rfl⟩))) fld_11_ok put_11_ok cst_11_ok cstl_11_ok (fun _ h => absurd h List.not_mem_nil) D_X11_in_ok (by decide +kernel)
abbrev C_x_X11_cross_6 : CE := ([(2, 0, 0), (0, 0, 1), (0, 0, 1), (0, 10, 2147483647)], [], [], [(some (0, -1, -1), [], [(0, 0, (0, 0, 0))], [])], [(0, 0)], 2, 45)
theorem ac_x_X11_cross_6 (l : Launch) (G : KG) : ACt l G TM yX11_cross cX11_cross 5 (some .int) C_x_X11_cross_6 := acert (tab := D_X11_cross) (fld := fld_11) (put := put_11) (cst := cst_11) (cstl := cstl_11) (cal := [(130, 1, 1, C_x_X11_isPlane_c2), (29, 1, 6, C_x_X11_in_c4)]) (rk := 1) (cuts := []) (fuel := 4000) (by decide) (Or.inr (Or.inl ⟨rfl, rfl⟩)) fld_11_ok put_11_ok cst_11_ok cstl_11_ok (List.forall_mem_cons.mpr ⟨cok_s k_11_130 (ac_x_X11_isPlane_c2 l G) rfl, List.forall_mem_cons.mpr ⟨cok_s k_11_29 (ac_x_X11_in_c4 l G) rfl, fun _ h => absurd h List.not_mem_nil⟩⟩) D_X11_cross_ok (by decide +kernel)
abbrev C_x_X10_isWithin_c2 : CE := ([(0, -9, 9), (0, 9, 9)], [], [], [(some (0, 1, 1), [], [], [])], [], 0, 0)
theorem ac_x_X10_isWithin_c2 (l : Launch) (G : KG) : ACt l G TX yX10_isWithin cX10_isWithin 2 (some .boolean) C_x_X10_isWithin_c2 := acert (tab := D_X10_isWithin) (fld := fld_10) (put := put_10) (cst := cst_10) (cstl := cstl_10) (cal := []) (rk := 3) (cuts := []) (fuel := 4000) (by decide) (Or.inr (Or.inr (Or.inr ⟨rfl, rfl⟩))) fld_10_ok put_10_ok cst_10_ok cstl_10_ok (fun _ h => absurd h List.not_mem_nil) D_X10_isWithin_ok (by decide +kernel)
abbrev C_x_X11_in_c5 : CE := ([(1, -9, 9), (1, -9, -9), (1, 9, 9)], [], [], [(some (0, 1, 1), [], [], [])], [], 0, 0)
theorem ac_x_X11_in_c5 (l : Launch) (G : KG) : ACt l G TM yX11_in cX11_in 6 (some .boolean) C_x_X11_in_c5 := acert (tab := D_X11_in) (fld := fld_11) (put := put_11) (cst := cst_11) (cstl := cstl_11) (cal := []) (rk := 3) (cuts := []) (fuel := 4000) (by decide) (Or.inr (Or.inr (Or.inr ⟨rfl, rfl⟩))) fld_11_ok put_11_ok cst_11_ok cstl_11_ok (fun _ h => absurd h List.not_mem_nil) D_X11_in_ok (by decide +kernel)
theorem mkq_cons {a k0 : Nat} {m : List (Nat × Nat)} {k j : Nat} (h : mkq ((k0, 999) :: m) k j = false) : k0 ≠ k ∧ mkq m k j = false := by
  have h : ((Nat.beq k0 k && (Nat.beq 999 j || true)) || mkq m k j) = false := h
  obtain ⟨h1, h2⟩ := Bool.or_eq_false_iff.mp h
  refine ⟨fun e => ?_, h2⟩
  rw [e, Nat.beq_refl, Bool.or_true] at h1
  cases h1
theorem cget_I {G : KG} {w : va_W} {k a n : Nat} {f : Nat → Int32} (h : w[k]? = some (a, aI G n f)) (j : Nat) : cget w k j = some (.inr (cyI G, n, .inl f)) := by
  unfold cget
  rw [h]
theorem arr_inj {c : ClassId} {n : Nat} {f g : Nat → Int32} (h : (some (.inr (c, n, .inl f)) : Option (Value ⊕ (ClassId × vp_A))) = some (.inr (c, n, .inl g))) : f = g := by
  have h1 := Sum.inr.inj (Option.some.inj h)
  have h2 := congrArg (fun q => q.2.2) h1
  exact Sum.inl.inj h2
/-- the end of cross: what stood there; there stands v -/
def CXpo (G : KG) (ad : Nat → Nat) (T : List TE) (k : Nat) (m : List (Nat × Nat)) (w0 : va_W) (f : Nat → Int32) (j : Nat) (v : Int32) : Option Value → va_W → Prop := fun r w1 => r = some (.int (f j)) ∧ WT G ad T w1 ∧ FRM ((k, 999) :: m) w0 w1 ∧ cget w1 k 0 = some (.inr (cyI G, 4, .inl (upd f j v)))
theorem cx_end {G : KG} {ad : Nat → Nat} {T : List TE} {k : Nat} {m : List (Nat × Nat)} {w0 ws : va_W} {f g : Nat → Int32} {j : Nat} {a b : Int} {x : Int32} (hW : WT G ad T ws) (hF : FRM m w0 ws) (hT : T[k]? = some (.inr (0, 4, (0, a, b)))) (hg : ws[k]? = some (ad k, aI G 4 g)) (hf : cget w0 k 0 = some (.inr (cyI G, 4, .inl f))) (hm : mkq m k 0 = false) (h1 : a ≤ x.toInt) (h2 : x.toInt ≤ b) : CXpo G ad T k m w0 f j x (some (.int (g j))) (ws.set k (ad k, aI G 4 (upd g j x))) := by
  have e : g = f := arr_inj ((cget_I hg 0).symm.trans ((hF.2 k 0 hm).trans hf))
  subst e
  refine ⟨rfl, WT.wr hW hT hg h1 h2, ⟨by rw [List.length_set]; exact hF.1, fun i q hi => ?_⟩, ?_⟩
  · obtain ⟨n1, n2⟩ := mkq_cons (a := 0) hi
    rw [cget_arr (Ne.symm n1)]
    exact hF.2 i q n2
  · unfold cget
    rw [set_same hg]
abbrev C_cxr : CE := ([(2, 0, 0), (0, 0, 1), (0, 0, 1), (0, -9, 9)], [], [], [], [], 1, 21)
abbrev rm_cxr : Room := { frames := 1, cells := 0, slots := 0, locals := 21 }
theorem d_cxr_25 : decode cX10_cross 25 = .ok (.aload_n 0, 1) := by decide +kernel
theorem d_cxr_26 : decode cX10_cross 26 = .ok (.getfield 71, 3) := by decide +kernel
theorem d_cxr_29 : decode cX10_cross 29 = .ok (.iconst 2, 1) := by decide +kernel
theorem d_cxr_30 : decode cX10_cross 30 = .ok (.iload_n 1, 1) := by decide +kernel
theorem d_cxr_31 : decode cX10_cross 31 = .ok (.imul, 1) := by decide +kernel
theorem d_cxr_32 : decode cX10_cross 32 = .ok (.iload_n 2, 1) := by decide +kernel
theorem d_cxr_33 : decode cX10_cross 33 = .ok (.iadd, 1) := by decide +kernel
theorem d_cxr_34 : decode cX10_cross 34 = .ok (.iaload, 1) := by decide +kernel
theorem d_cxr_35 : decode cX10_cross 35 = .ok (.istore 4, 2) := by decide +kernel
theorem d_cxr_37 : decode cX10_cross 37 = .ok (.aload_n 0, 1) := by decide +kernel
theorem d_cxr_38 : decode cX10_cross 38 = .ok (.getfield 71, 3) := by decide +kernel
theorem d_cxr_41 : decode cX10_cross 41 = .ok (.iconst 2, 1) := by decide +kernel
theorem d_cxr_42 : decode cX10_cross 42 = .ok (.iload_n 1, 1) := by decide +kernel
theorem d_cxr_43 : decode cX10_cross 43 = .ok (.imul, 1) := by decide +kernel
theorem d_cxr_44 : decode cX10_cross 44 = .ok (.iload_n 2, 1) := by decide +kernel
theorem d_cxr_45 : decode cX10_cross 45 = .ok (.iadd, 1) := by decide +kernel
theorem d_cxr_46 : decode cX10_cross 46 = .ok (.iload_n 3, 1) := by decide +kernel
theorem d_cxr_47 : decode cX10_cross 47 = .ok (.iastore, 1) := by decide +kernel
theorem d_cxr_48 : decode cX10_cross 48 = .ok (.iload 4, 2) := by decide +kernel
theorem d_cxr_50 : decode cX10_cross 50 = .ok (.ireturn, 1) := by decide +kernel
abbrev sC_cxr : CE := C_cxr
def sl_cxr : List CAL := [(156, 1, 1, C_x_X10_isOneOfTwo_c2), (159, 1, 2, C_x_X10_isWithin_c2)]
theorem sl_cxr_ok (l : Launch) (G : KG) : ∀ q ∈ sl_cxr, COK l G RX10 TX q := List.forall_mem_cons.mpr ⟨cok_s k_10_156 (ac_x_X10_isOneOfTwo_c2 l G) rfl, List.forall_mem_cons.mpr ⟨cok_s k_10_159 (ac_x_X10_isWithin_c2 l G) rfl, fun _ h => absurd h List.not_mem_nil⟩⟩
def sk_cxr : List CUT := []
abbrev se_cxr_25 : CUT := (25, ([(0, 0, false), (1, 1, false), (2, 2, false), (3, 3, false)], [], [(0, (2, 0, 0)), (1, (0, 0, 1)), (2, (0, 0, 1)), (3, (0, -9, 9))], [], [], 1000), 0, [(0, 0)])
def sx_cxr : List CUT := [se_cxr_25]
abbrev ss_cxr : AS := ([(0, 0, false), (1, 1, false), (2, 2, false), (3, 3, false)], [], [(0, (2, 0, 0)), (1, (0, 0, 1)), (2, (0, 0, 1)), (3, (0, -9, 9))], [], [], 1000)
theorem sg_cxr : acheckS hk0 D_X10_cross 5 TX fld_10 put_10 cst_10 cstl_10 sl_cxr 1 sC_cxr sk_cxr sx_cxr [0, 1, 2, 3] 4000 0 ss_cxr = true := by decide +kernel
theorem ac_cxr (l : Launch) (G : KG) {ad : Nat → Nat} {w0 : va_W} {f : Nat → Int32} (b q v : Int32) (hW : WT G ad TX w0) (hf : cget w0 103 0 = some (.inr (cyI G, 4, .inl f))) (hb : b = 0 ∨ b = 1) (hq : q = 0 ∨ q = 1) (v0 : -9 ≤ v.toInt) (v1 : v.toInt ≤ 9) : Ct l G yX10_cross cX10_cross 5 (some .int) rm_cxr [.ref (ad 0), .int b, .int q, .int v] w0 (CXpo G ad TX 103 [] w0 f (2 * b + q).toNatClampNeg v) := by
  have b01 : 0 ≤ b.toInt ∧ b.toInt ≤ 1 := by rcases hb with rfl | rfl <;> exact ⟨by decide, by decide⟩
  have q01 : 0 ≤ q.toInt ∧ q.toInt ≤ 1 := by rcases hq with rfl | rfl <;> exact ⟨by decide, by decide⟩
  obtain ⟨μ, hμ⟩ : ∃ z : Nat → Value, z = fun k => if k = 0 then .ref (ad 0) else if k = 1 then .int b else if k = 2 then .int q else .int v := ⟨_, rfl⟩
  have m0 : μ 0 = .ref (ad 0) := by rw [hμ]; rfl
  have m1 : μ 1 = .int b := by rw [hμ]; rfl
  have m2 : μ 2 = .int q := by rw [hμ]; rfl
  have m3 : μ 3 = .int v := by rw [hμ]; rfl
  have hpre : PRE ad C_cxr μ w0 := by
    refine ⟨fun k t hk => ?_, fun k z hk => ?_, fun z hz => ?_⟩
    · match k, hk with
      | 0, hk => cases hk; rw [m0]; exact Or.inr (Or.inr (Or.inl ⟨rfl, rfl⟩))
      | 1, hk => cases hk; rw [m1]; exact vty_i b01.1 b01.2
      | 2, hk => cases hk; rw [m2]; exact vty_i q01.1 q01.2
      | 3, hk => cases hk; rw [m3]; exact vty_i v0 v1
      | N + 4, hk => cases hk
    · cases hk
    · cases hz
  have he : (List.range C_cxr.1.length).map μ = [.ref (ad 0), .int b, .int q, .int v] := by show [μ 0, μ 1, μ 2, μ 3] = _; rw [m0, m1, m2, m3]
  rw [← he]
  refine hand_ofR (C := C_cxr) (rm := rm_cxr) (PO := CXpo G ad TX 103 [] w0 f (2 * b + q).toNatClampNeg v) hW hpre (by decide) (by decide) (by decide) (by decide) (by decide) ?_
  intro p e s m args below meth c A X lw hg
  have hPO : ∀ r w1, POST G ad TX sC_cxr μ w0 r w1 → CXpo G ad TX 103 [] w0 f (2 * b + q).toNatClampNeg v r w1 := by
    intro r w1 hp
    obtain ⟨A1, hA1, -⟩ := hp
    cases hA1
  refine aseg (C := sC_cxr) (R := rm_cxr) (PO := CXpo G ad TX 103 [] w0 f (2 * b + q).toNatClampNeg v) (fld := fld_10) (put := put_10) (cst := cst_10) (cstl := cstl_10) (hk := hk0) (tab := D_X10_cross) (rk := 1) (pids := [0, 1, 2, 3]) D_X10_cross_ok X rfl rfl hok0 (Or.inr (Or.inl ⟨rfl, rfl⟩)) (Nat.zero_le _) (Nat.zero_le _) (spin1 (C := C_cxr)) (spin2 (C := C_cxr)) hPO fld_10_ok put_10_ok cst_10_ok cstl_10_ok (sl_cxr_ok l G) (Nat.zero_le _) (Nat.zero_le _) spin3 sg_cxr (fun d9 hd ν2 lw2 sw2 ws2 hg2 => ?_) μ lw [] w0 hg
  rw [List.mem_singleton.mp hd] at hg2 ⊢
  have h3 := hg2.2.2
  have e0 : ν2 0 = .ref (ad 0) := ((h3.2.2.2.2.1 _ (spin1 (C := C_cxr) 0 (by decide))).2).trans m0
  have e1 : ν2 1 = .int b := ((h3.2.2.2.2.1 _ (spin1 (C := C_cxr) 1 (by decide))).2).trans m1
  have e2 : ν2 2 = .int q := ((h3.2.2.2.2.1 _ (spin1 (C := C_cxr) 2 (by decide))).2).trans m2
  have e3 : ν2 3 = .int v := ((h3.2.2.2.2.1 _ (spin1 (C := C_cxr) 3 (by decide))).2).trans m3
  have el : lw2 = [(0, ν2 0), (1, ν2 1), (2, ν2 2), (3, ν2 3)] := hg2.1
  have es : sw2 = [] := hg2.2.1
  have hW2 := h3.2.2.2.2.2.1
  have hF2 := h3.2.2.2.2.2.2
  rw [el, es, e0, e1, e2, e3]
  obtain ⟨g, hg9, -⟩ := WT.ints (T := TX) (k := 103) (n := 4) hW2 rfl
  have hvp : vp_in (2 * b + q) 4 := by
    rcases hb with rfl | rfl <;> rcases hq with rfl | rfl <;> (unfold vp_in; decide)
  refine z_aload_n X d_cxr_25 rfl 0 rfl ?_
  refine hget (T := TX) X hW2 (idx := 71) (fld_10_ok _ (by decide : (71, 10, 9) ∈ fld_10)) d_cxr_26 rfl (fget_ref hW2 rfl rfl) ?_
  refine z_iconst X d_cxr_29 (v := 2) (by decide) ?_
  refine z_iload_n X d_cxr_30 rfl 1 rfl ?_
  refine z_imul X d_cxr_31 ?_
  refine z_iload_n X d_cxr_32 rfl 2 rfl ?_
  refine z_iadd X d_cxr_33 ?_
  refine z_iald X d_cxr_34 103 (hg9) (hvp) rfl ?_
  refine z_istore X d_cxr_35 (by decide) (lv' := [(4, .int (g ((((((2 : Int32)) * (b))) + (q))).toNatClampNeg)), (0, .ref (ad 0)), (1, .int (b)), (2, .int (q)), (3, .int (v))]) rfl ?_
  refine z_aload_n X d_cxr_37 rfl 1 rfl ?_
  refine hget (T := TX) X hW2 (idx := 71) (fld_10_ok _ (by decide : (71, 10, 9) ∈ fld_10)) d_cxr_38 rfl (fget_ref hW2 rfl rfl) ?_
  refine z_iconst X d_cxr_41 (v := 2) (by decide) ?_
  refine z_iload_n X d_cxr_42 rfl 2 rfl ?_
  refine z_imul X d_cxr_43 ?_
  refine z_iload_n X d_cxr_44 rfl 3 rfl ?_
  refine z_iadd X d_cxr_45 ?_
  refine z_iload_n X d_cxr_46 rfl 4 rfl ?_
  refine z_iast X d_cxr_47 103 (hg9) (hvp) rfl ?_
  refine z_iload X d_cxr_48 0 rfl ?_
  exact z_iret X rfl d_cxr_50 (Nat.zero_le _) (Nat.zero_le _) (cx_end (a := -2147483648) (b := 2147483647) (j := (2 * b + q).toNatClampNeg) hW2 hF2 rfl hg9 hf (by decide) (i32_lo v) (i32_hi v))
abbrev C_cmr : CE := ([(2, 0, 0), (0, 0, 1), (0, 0, 1), (0, -9, 9)], [], [], [], [(0, 0)], 2, 45)
abbrev rm_cmr : Room := { frames := 2, cells := 0, slots := 0, locals := 45 }
theorem d_cmr_35 : decode cX11_cross 35 = .ok (.aload_n 0, 1) := by decide +kernel
theorem d_cmr_36 : decode cX11_cross 36 = .ok (.getfield 135, 3) := by decide +kernel
theorem d_cmr_39 : decode cX11_cross 39 = .ok (.iconst 2, 1) := by decide +kernel
theorem d_cmr_40 : decode cX11_cross 40 = .ok (.iload_n 1, 1) := by decide +kernel
theorem d_cmr_41 : decode cX11_cross 41 = .ok (.imul, 1) := by decide +kernel
theorem d_cmr_42 : decode cX11_cross 42 = .ok (.iload_n 2, 1) := by decide +kernel
theorem d_cmr_43 : decode cX11_cross 43 = .ok (.iadd, 1) := by decide +kernel
theorem d_cmr_44 : decode cX11_cross 44 = .ok (.iaload, 1) := by decide +kernel
theorem d_cmr_45 : decode cX11_cross 45 = .ok (.istore 4, 2) := by decide +kernel
theorem d_cmr_47 : decode cX11_cross 47 = .ok (.aload_n 0, 1) := by decide +kernel
theorem d_cmr_48 : decode cX11_cross 48 = .ok (.getfield 135, 3) := by decide +kernel
theorem d_cmr_51 : decode cX11_cross 51 = .ok (.iconst 2, 1) := by decide +kernel
theorem d_cmr_52 : decode cX11_cross 52 = .ok (.iload_n 1, 1) := by decide +kernel
theorem d_cmr_53 : decode cX11_cross 53 = .ok (.imul, 1) := by decide +kernel
theorem d_cmr_54 : decode cX11_cross 54 = .ok (.iload_n 2, 1) := by decide +kernel
theorem d_cmr_55 : decode cX11_cross 55 = .ok (.iadd, 1) := by decide +kernel
theorem d_cmr_56 : decode cX11_cross 56 = .ok (.iload_n 3, 1) := by decide +kernel
theorem d_cmr_57 : decode cX11_cross 57 = .ok (.iastore, 1) := by decide +kernel
theorem d_cmr_58 : decode cX11_cross 58 = .ok (.iload 4, 2) := by decide +kernel
theorem d_cmr_60 : decode cX11_cross 60 = .ok (.ireturn, 1) := by decide +kernel
abbrev sC_cmr : CE := C_cmr
def sl_cmr : List CAL := [(130, 1, 1, C_x_X11_isPlane_c2), (29, 1, 6, C_x_X11_in_c5)]
theorem sl_cmr_ok (l : Launch) (G : KG) : ∀ q ∈ sl_cmr, COK l G RX11 TM q := List.forall_mem_cons.mpr ⟨cok_s k_11_130 (ac_x_X11_isPlane_c2 l G) rfl, List.forall_mem_cons.mpr ⟨cok_s k_11_29 (ac_x_X11_in_c5 l G) rfl, fun _ h => absurd h List.not_mem_nil⟩⟩
def sk_cmr : List CUT := []
abbrev se_cmr_35 : CUT := (35, ([(0, 0, false), (1, 1, false), (2, 2, false), (3, 3, false)], [], [(0, (2, 0, 0)), (1, (0, 0, 1)), (2, (0, 0, 1)), (3, (0, -9, 9)), (500, (0, 0, 0))], [(0, 0, 500)], [], 1000), 0, [(0, 0)])
def sx_cmr : List CUT := [se_cmr_35]
abbrev ss_cmr : AS := ([(0, 0, false), (1, 1, false), (2, 2, false), (3, 3, false)], [], [(0, (2, 0, 0)), (1, (0, 0, 1)), (2, (0, 0, 1)), (3, (0, -9, 9))], [], [], 1000)
theorem sg_cmr : acheckS hk0 D_X11_cross 5 TM fld_11 put_11 cst_11 cstl_11 sl_cmr 1 sC_cmr sk_cmr sx_cmr [0, 1, 2, 3] 4000 0 ss_cmr = true := by decide +kernel
theorem ac_cmr (l : Launch) (G : KG) {ad : Nat → Nat} {w0 : va_W} {f : Nat → Int32} (b q v : Int32) (hW : WT G ad TM w0) (hf : cget w0 15 0 = some (.inr (cyI G, 4, .inl f))) (hb : b = 0 ∨ b = 1) (hq : q = 0 ∨ q = 1) (v0 : -9 ≤ v.toInt) (v1 : v.toInt ≤ 9) : Ct l G yX11_cross cX11_cross 5 (some .int) rm_cmr [.ref (ad 0), .int b, .int q, .int v] w0 (CXpo G ad TM 15 [(0, 0)] w0 f (2 * b + q).toNatClampNeg v) := by
  have b01 : 0 ≤ b.toInt ∧ b.toInt ≤ 1 := by rcases hb with rfl | rfl <;> exact ⟨by decide, by decide⟩
  have q01 : 0 ≤ q.toInt ∧ q.toInt ≤ 1 := by rcases hq with rfl | rfl <;> exact ⟨by decide, by decide⟩
  obtain ⟨μ, hμ⟩ : ∃ z : Nat → Value, z = fun k => if k = 0 then .ref (ad 0) else if k = 1 then .int b else if k = 2 then .int q else .int v := ⟨_, rfl⟩
  have m0 : μ 0 = .ref (ad 0) := by rw [hμ]; rfl
  have m1 : μ 1 = .int b := by rw [hμ]; rfl
  have m2 : μ 2 = .int q := by rw [hμ]; rfl
  have m3 : μ 3 = .int v := by rw [hμ]; rfl
  have hpre : PRE ad C_cmr μ w0 := by
    refine ⟨fun k t hk => ?_, fun k z hk => ?_, fun z hz => ?_⟩
    · match k, hk with
      | 0, hk => cases hk; rw [m0]; exact Or.inr (Or.inr (Or.inl ⟨rfl, rfl⟩))
      | 1, hk => cases hk; rw [m1]; exact vty_i b01.1 b01.2
      | 2, hk => cases hk; rw [m2]; exact vty_i q01.1 q01.2
      | 3, hk => cases hk; rw [m3]; exact vty_i v0 v1
      | N + 4, hk => cases hk
    · cases hk
    · cases hz
  have he : (List.range C_cmr.1.length).map μ = [.ref (ad 0), .int b, .int q, .int v] := by show [μ 0, μ 1, μ 2, μ 3] = _; rw [m0, m1, m2, m3]
  rw [← he]
  refine hand_ofR (C := C_cmr) (rm := rm_cmr) (PO := CXpo G ad TM 15 [(0, 0)] w0 f (2 * b + q).toNatClampNeg v) hW hpre (by decide) (by decide) (by decide) (by decide) (by decide) ?_
  intro p e s m args below meth c A X lw hg
  have hPO : ∀ r w1, POST G ad TM sC_cmr μ w0 r w1 → CXpo G ad TM 15 [(0, 0)] w0 f (2 * b + q).toNatClampNeg v r w1 := by
    intro r w1 hp
    obtain ⟨A1, hA1, -⟩ := hp
    cases hA1
  refine aseg (C := sC_cmr) (R := rm_cmr) (PO := CXpo G ad TM 15 [(0, 0)] w0 f (2 * b + q).toNatClampNeg v) (fld := fld_11) (put := put_11) (cst := cst_11) (cstl := cstl_11) (hk := hk0) (tab := D_X11_cross) (rk := 1) (pids := [0, 1, 2, 3]) D_X11_cross_ok X rfl rfl hok0 (Or.inr (Or.inl ⟨rfl, rfl⟩)) (Nat.zero_le _) (Nat.zero_le _) (spin1 (C := C_cmr)) (spin2 (C := C_cmr)) hPO fld_11_ok put_11_ok cst_11_ok cstl_11_ok (sl_cmr_ok l G) (Nat.zero_le _) (Nat.zero_le _) spin3 sg_cmr (fun d9 hd ν2 lw2 sw2 ws2 hg2 => ?_) μ lw [] w0 hg
  rw [List.mem_singleton.mp hd] at hg2 ⊢
  have h3 := hg2.2.2
  have e0 : ν2 0 = .ref (ad 0) := ((h3.2.2.2.2.1 _ (spin1 (C := C_cmr) 0 (by decide))).2).trans m0
  have e1 : ν2 1 = .int b := ((h3.2.2.2.2.1 _ (spin1 (C := C_cmr) 1 (by decide))).2).trans m1
  have e2 : ν2 2 = .int q := ((h3.2.2.2.2.1 _ (spin1 (C := C_cmr) 2 (by decide))).2).trans m2
  have e3 : ν2 3 = .int v := ((h3.2.2.2.2.1 _ (spin1 (C := C_cmr) 3 (by decide))).2).trans m3
  have el : lw2 = [(0, ν2 0), (1, ν2 1), (2, ν2 2), (3, ν2 3)] := hg2.1
  have es : sw2 = [] := hg2.2.1
  have hW2 := h3.2.2.2.2.2.1
  have hF2 := h3.2.2.2.2.2.2
  rw [el, es, e0, e1, e2, e3]
  obtain ⟨g, hg9, -⟩ := WT.ints (T := TM) (k := 15) (n := 4) hW2 rfl
  have hvp : vp_in (2 * b + q) 4 := by
    rcases hb with rfl | rfl <;> rcases hq with rfl | rfl <;> (unfold vp_in; decide)
  refine z_aload_n X d_cmr_35 rfl 0 rfl ?_
  refine hget (T := TM) X hW2 (idx := 135) (fld_11_ok _ (by decide : (135, 11, 23) ∈ fld_11)) d_cmr_36 rfl (fget_ref hW2 rfl rfl) ?_
  refine z_iconst X d_cmr_39 (v := 2) (by decide) ?_
  refine z_iload_n X d_cmr_40 rfl 1 rfl ?_
  refine z_imul X d_cmr_41 ?_
  refine z_iload_n X d_cmr_42 rfl 2 rfl ?_
  refine z_iadd X d_cmr_43 ?_
  refine z_iald X d_cmr_44 15 (hg9) (hvp) rfl ?_
  refine z_istore X d_cmr_45 (by decide) (lv' := [(4, .int (g ((((((2 : Int32)) * (b))) + (q))).toNatClampNeg)), (0, .ref (ad 0)), (1, .int (b)), (2, .int (q)), (3, .int (v))]) rfl ?_
  refine z_aload_n X d_cmr_47 rfl 1 rfl ?_
  refine hget (T := TM) X hW2 (idx := 135) (fld_11_ok _ (by decide : (135, 11, 23) ∈ fld_11)) d_cmr_48 rfl (fget_ref hW2 rfl rfl) ?_
  refine z_iconst X d_cmr_51 (v := 2) (by decide) ?_
  refine z_iload_n X d_cmr_52 rfl 2 rfl ?_
  refine z_imul X d_cmr_53 ?_
  refine z_iload_n X d_cmr_54 rfl 3 rfl ?_
  refine z_iadd X d_cmr_55 ?_
  refine z_iload_n X d_cmr_56 rfl 4 rfl ?_
  refine z_iast X d_cmr_57 15 (hg9) (hvp) rfl ?_
  refine z_iload X d_cmr_58 0 rfl ?_
  exact z_iret X rfl d_cmr_60 (Nat.zero_le _) (Nat.zero_le _) (cx_end (a := -9) (b := 9) (j := (2 * b + q).toNatClampNeg) hW2 hF2 rfl hg9 hf (by decide) v0 v1)
