/-! what the instructions of the program's own classes need of the tables, by program -/
theorem ob_X11_1 : Cond.methodLink RX11 1 Lib.objectInit ∈ AW := aw_i 130 (by decide +kernel) rfl
theorem nwd_X11_7 : NWd RX11 7 2 RJx4a65c 3 [.int 0, .null, .int 0] := ⟨TJx4a65c, tyJx4a65c, rfl, cw_2, tyJx4a65c_ok, aw_i 133 (by decide +kernel) rfl, aw_i 134 (by decide +kernel) rfl, aw_i 93 (by decide +kernel) rfl, fun j hj => by rcases j with _ | _ | _ | j <;> first | rfl | omega⟩
theorem vw_X11_9 : VW RX11 9 yJx4a65c_init_da8c8 cJx4a65c_init_da8c8 1 none 0 := ⟨⟨aw_i 137 (by decide +kernel) rfl, aw_i 93 (by decide +kernel) rfl, by decide +kernel, by decide +kernel, by decide +kernel⟩, Or.inl (aw_i 135 (by decide +kernel) rfl)⟩
theorem iw_Jx4a65c_init_da8c8 : Cond.instanceMethod yJx4a65c_init_da8c8 ∈ AW := aw_i 136 (by decide +kernel) rfl
theorem cw_14 : ∀ w ∈ u_ws RX11 TX11 10, w ∈ AW := aw_sub [202, 204, 206, 208, 210, 212, 214, 216, 218, 220] (by decide +kernel) (by decide +kernel)
theorem fw_X11_10 : FW RX11 10 14 0 2 true := ⟨RX11, TX11, 10, tyX11, rfl, cw_14, by decide, rfl, tyX11_ok, nmX11, rfl, rfl, fun _ => rfl, Or.inl (aw_i 192 (by decide +kernel) rfl)⟩
theorem fw_X11_16 : FW RX11 16 14 1 2 true := ⟨RX11, TX11, 10, tyX11, rfl, cw_14, by decide, rfl, tyX11_ok, nmX11, rfl, rfl, fun _ => rfl, Or.inl (aw_i 193 (by decide +kernel) rfl)⟩
theorem fw_X11_19 : FW RX11 19 14 2 2 true := ⟨RX11, TX11, 10, tyX11, rfl, cw_14, by decide, rfl, tyX11_ok, nmX11, rfl, rfl, fun _ => rfl, Or.inl (aw_i 194 (by decide +kernel) rfl)⟩
theorem fw_X11_22 : FW RX11 22 14 3 2 true := ⟨RX11, TX11, 10, tyX11, rfl, cw_14, by decide, rfl, tyX11_ok, nmX11, rfl, rfl, fun _ => rfl, Or.inl (aw_i 195 (by decide +kernel) rfl)⟩
theorem fw_X11_25 : FW RX11 25 14 4 2 true := ⟨RX11, TX11, 10, tyX11, rfl, cw_14, by decide, rfl, tyX11_ok, nmX11, rfl, rfl, fun _ => rfl, Or.inl (aw_i 196 (by decide +kernel) rfl)⟩
theorem cw_9 : ∀ w ∈ u_ws RX6 TX6 2, w ∈ AW := aw_sub [170, 172] (by decide +kernel) (by decide +kernel)
theorem nwd_X11_28 : NWd RX11 28 9 RX6 2 [.null, .int 0] := ⟨TX6, tyX6, rfl, cw_9, tyX6_ok, aw_i 159 (by decide +kernel) rfl, aw_i 160 (by decide +kernel) rfl, aw_i 94 (by decide +kernel) rfl, fun j hj => by rcases j with _ | _ | j <;> first | rfl | omega⟩
theorem vw_X11_30 : VW RX11 30 yX6_init cX6_init 1 none 0 := ⟨⟨aw_i 163 (by decide +kernel) rfl, aw_i 94 (by decide +kernel) rfl, by decide +kernel, by decide +kernel, by decide +kernel⟩, Or.inr ⟨"HopRules", nw_i 161 (by decide +kernel) rfl⟩⟩
theorem iw_X6_init : Cond.instanceMethod yX6_init ∈ AW := aw_i 162 (by decide +kernel) rfl
theorem fw_X11_31 : FW RX11 31 14 5 2 true := ⟨RX11, TX11, 10, tyX11, rfl, cw_14, by decide, rfl, tyX11_ok, nmX11, rfl, rfl, fun _ => rfl, Or.inl (aw_i 197 (by decide +kernel) rfl)⟩
theorem cw_11 : ∀ w ∈ u_ws RX8 TX8 2, w ∈ AW := aw_sub [187, 189] (by decide +kernel) (by decide +kernel)
theorem nwd_X11_35 : NWd RX11 35 11 RX8 2 [.null, .int 0] := ⟨TX8, tyX8, rfl, cw_11, tyX8_ok, aw_i 175 (by decide +kernel) rfl, aw_i 176 (by decide +kernel) rfl, aw_i 95 (by decide +kernel) rfl, fun j hj => by rcases j with _ | _ | j <;> first | rfl | omega⟩
theorem vw_X11_37 : VW RX11 37 yX8_init cX8_init 1 none 0 := ⟨⟨aw_i 179 (by decide +kernel) rfl, aw_i 95 (by decide +kernel) rfl, by decide +kernel, by decide +kernel, by decide +kernel⟩, Or.inr ⟨"HopRules", nw_i 177 (by decide +kernel) rfl⟩⟩
theorem iw_X8_init : Cond.instanceMethod yX8_init ∈ AW := aw_i 178 (by decide +kernel) rfl
theorem fw_X11_38 : FW RX11 38 14 6 2 true := ⟨RX11, TX11, 10, tyX11, rfl, cw_14, by decide, rfl, tyX11_ok, nmX11, rfl, rfl, fun _ => rfl, Or.inl (aw_i 198 (by decide +kernel) rfl)⟩
theorem vw_X11_42 : VW RX11 42 yX11_hostAt cX11_hostAt 2 (some (.object "HopRules$Host")) 1 := ⟨⟨aw_i 248 (by decide +kernel) rfl, aw_i 90 (by decide +kernel) rfl, by decide +kernel, by decide +kernel, by decide +kernel⟩, Or.inl (aw_i 245 (by decide +kernel) rfl)⟩
theorem iw_X11_hostAt : Cond.instanceMethod yX11_hostAt ∈ AW := aw_i 247 (by decide +kernel) rfl
theorem sw_X11_hostAt : Cond.selects yX11_hostAt.cls yX11_hostAt yX11_hostAt ∈ AW := aw_i 0 (by decide +kernel) rfl
theorem vw_X11_53 : VW RX11 53 yX11_findHost cX11_findHost 5 (some (.object "HopRules$Host")) 2 := ⟨⟨aw_i 351 (by decide +kernel) rfl, aw_i 90 (by decide +kernel) rfl, by decide +kernel, by decide +kernel, by decide +kernel⟩, Or.inl (aw_i 348 (by decide +kernel) rfl)⟩
theorem iw_X11_findHost : Cond.instanceMethod yX11_findHost ∈ AW := aw_i 350 (by decide +kernel) rfl
theorem sw_X11_findHost : Cond.selects yX11_findHost.cls yX11_findHost yX11_findHost ∈ AW := aw_i 2 (by decide +kernel) rfl
theorem cw_8 : ∀ w ∈ u_ws RX5 TX5 5, w ∈ AW := aw_sub [386, 388, 390, 392, 394] (by decide +kernel) (by decide +kernel)
theorem fr_X11_57 : FR RX11 57 8 0 := ⟨RX5, TX5, 5, rfl, cw_8, by decide, rfl, Or.inr ⟨"HopRules", nw_i 374 (by decide +kernel) rfl⟩⟩
theorem fr_X11_63 : FR RX11 63 8 3 := ⟨RX5, TX5, 5, rfl, cw_8, by decide, rfl, Or.inr ⟨"HopRules", nw_i 381 (by decide +kernel) rfl⟩⟩
theorem fr_X11_10 : FR RX11 10 14 0 := ⟨RX11, TX11, 10, rfl, cw_14, by decide, rfl, Or.inl (aw_i 192 (by decide +kernel) rfl)⟩
theorem vw_X11_66 : VW RX11 66 yJx4a65c_size_8abf5 cJx4a65c_size_8abf5 1 (some .int) 0 := ⟨⟨aw_i 234 (by decide +kernel) rfl, aw_i 93 (by decide +kernel) rfl, by decide +kernel, by decide +kernel, by decide +kernel⟩, Or.inl (aw_i 231 (by decide +kernel) rfl)⟩
theorem iw_Jx4a65c_size_8abf5 : Cond.instanceMethod yJx4a65c_size_8abf5 ∈ AW := aw_i 232 (by decide +kernel) rfl
theorem sw_Jx4a65c_size_8abf5 : Cond.selects yJx4a65c_size_8abf5.cls yJx4a65c_size_8abf5 yJx4a65c_size_8abf5 ∈ AW := aw_i 233 (by decide +kernel) rfl
theorem nwd_X11_58 : NWd RX11 58 8 RX5 5 [.int 0, .null, .int 0, .int 0, .int 0] := ⟨TX5, tyX5, rfl, cw_8, tyX5_ok, aw_i 331 (by decide +kernel) rfl, aw_i 368 (by decide +kernel) rfl, aw_i 105 (by decide +kernel) rfl, fun j hj => by rcases j with _ | _ | _ | _ | _ | j <;> first | rfl | omega⟩
theorem vw_X11_75 : VW RX11 75 yX5_init cX5_init 5 none 4 := ⟨⟨aw_i 371 (by decide +kernel) rfl, aw_i 105 (by decide +kernel) rfl, by decide +kernel, by decide +kernel, by decide +kernel⟩, Or.inr ⟨"HopRules", nw_i 369 (by decide +kernel) rfl⟩⟩
theorem iw_X5_init : Cond.instanceMethod yX5_init ∈ AW := aw_i 370 (by decide +kernel) rfl
theorem vw_X11_78 : VW RX11 78 yJx4a65c_add_9ea2d cJx4a65c_add_9ea2d 2 (some .boolean) 1 := ⟨⟨aw_i 400 (by decide +kernel) rfl, aw_i 93 (by decide +kernel) rfl, by decide +kernel, by decide +kernel, by decide +kernel⟩, Or.inl (aw_i 397 (by decide +kernel) rfl)⟩
theorem iw_Jx4a65c_add_9ea2d : Cond.instanceMethod yJx4a65c_add_9ea2d ∈ AW := aw_i 398 (by decide +kernel) rfl
theorem sw_Jx4a65c_add_9ea2d : Cond.selects yJx4a65c_add_9ea2d.cls yJx4a65c_add_9ea2d yJx4a65c_add_9ea2d ∈ AW := aw_i 399 (by decide +kernel) rfl
theorem fr_X11_82 : FR RX11 82 8 4 := ⟨RX5, TX5, 5, rfl, cw_8, by decide, rfl, Or.inr ⟨"HopRules", nw_i 384 (by decide +kernel) rfl⟩⟩
theorem fw_X11_82 : FW RX11 82 8 4 1 false := ⟨RX5, TX5, 5, tyX5, rfl, cw_8, by decide, rfl, tyX5_ok, nmX5, rfl, rfl, (fun h => by cases h), Or.inr ⟨rfl, "HopRules", nw_i 384 (by decide +kernel) rfl⟩⟩
theorem vw_X11_86 : VW RX11 86 yX5_siteHost cX5_siteHost 2 (some (.object "HopRules$Host")) 0 := ⟨⟨aw_i 480 (by decide +kernel) rfl, aw_i 105 (by decide +kernel) rfl, by decide +kernel, by decide +kernel, by decide +kernel⟩, Or.inr ⟨"HopRules", nw_i 477 (by decide +kernel) rfl⟩⟩
theorem iw_X5_siteHost : Cond.instanceMethod yX5_siteHost ∈ AW := aw_i 479 (by decide +kernel) rfl
theorem sw_X5_siteHost : Cond.selects yX5_siteHost.cls yX5_siteHost yX5_siteHost ∈ AW := aw_i 6 (by decide +kernel) rfl
theorem vw_X11_90 : VW RX11 90 yX11_isPath cX11_isPath 3 (some .boolean) 1 := ⟨⟨aw_i 490 (by decide +kernel) rfl, aw_i 90 (by decide +kernel) rfl, by decide +kernel, by decide +kernel, by decide +kernel⟩, Or.inl (aw_i 488 (by decide +kernel) rfl)⟩
theorem tw_X11_isPath : Cond.static yX11_isPath ∈ AW := aw_i 489 (by decide +kernel) rfl
theorem vw_X11_96 : VW RX11 96 yX11_tellAddress cX11_tellAddress 7 (some .int) 4 := ⟨⟨aw_i 495 (by decide +kernel) rfl, aw_i 90 (by decide +kernel) rfl, by decide +kernel, by decide +kernel, by decide +kernel⟩, Or.inl (aw_i 492 (by decide +kernel) rfl)⟩
theorem iw_X11_tellAddress : Cond.instanceMethod yX11_tellAddress ∈ AW := aw_i 494 (by decide +kernel) rfl
theorem sw_X11_tellAddress : Cond.selects yX11_tellAddress.cls yX11_tellAddress yX11_tellAddress ∈ AW := aw_i 7 (by decide +kernel) rfl
theorem vw_X11_100 : VW RX11 100 yX11_addressAt cX11_addressAt 2 (some (.object "HopRules$Address")) 1 := ⟨⟨aw_i 831 (by decide +kernel) rfl, aw_i 90 (by decide +kernel) rfl, by decide +kernel, by decide +kernel, by decide +kernel⟩, Or.inl (aw_i 828 (by decide +kernel) rfl)⟩
theorem iw_X11_addressAt : Cond.instanceMethod yX11_addressAt ∈ AW := aw_i 830 (by decide +kernel) rfl
theorem sw_X11_addressAt : Cond.selects yX11_addressAt.cls yX11_addressAt yX11_addressAt ∈ AW := aw_i 10 (by decide +kernel) rfl
theorem vw_X11_104 : VW RX11 104 yX11_powerOfReference cX11_powerOfReference 2 (some .int) 1 := ⟨⟨aw_i 839 (by decide +kernel) rfl, aw_i 90 (by decide +kernel) rfl, by decide +kernel, by decide +kernel, by decide +kernel⟩, Or.inl (aw_i 837 (by decide +kernel) rfl)⟩
theorem tw_X11_powerOfReference : Cond.static yX11_powerOfReference ∈ AW := aw_i 838 (by decide +kernel) rfl
theorem cw_3 : ∀ w ∈ u_ws RX0 TX0 13, w ∈ AW := aw_sub [794, 796, 798, 800, 802, 804, 806, 808, 810, 812, 814, 816, 818] (by decide +kernel) (by decide +kernel)
theorem fr_X11_110 : FR RX11 110 3 4 := ⟨RX0, TX0, 13, rfl, cw_3, by decide, rfl, Or.inr ⟨"HopRules", nw_i 780 (by decide +kernel) rfl⟩⟩
theorem vw_X11_115 : VW RX11 115 yX11_pathBehind cX11_pathBehind 6 (some .int) 3 := ⟨⟨aw_i 843 (by decide +kernel) rfl, aw_i 90 (by decide +kernel) rfl, by decide +kernel, by decide +kernel, by decide +kernel⟩, Or.inl (aw_i 841 (by decide +kernel) rfl)⟩
theorem tw_X11_pathBehind : Cond.static yX11_pathBehind ∈ AW := aw_i 842 (by decide +kernel) rfl
theorem fr_X11_121 : FR RX11 121 3 1 := ⟨RX0, TX0, 13, rfl, cw_3, by decide, rfl, Or.inr ⟨"HopRules", nw_i 771 (by decide +kernel) rfl⟩⟩
theorem fr_X11_124 : FR RX11 124 3 2 := ⟨RX0, TX0, 13, rfl, cw_3, by decide, rfl, Or.inr ⟨"HopRules", nw_i 775 (by decide +kernel) rfl⟩⟩
theorem fr_X11_128 : FR RX11 128 3 3 := ⟨RX0, TX0, 13, rfl, cw_3, by decide, rfl, Or.inr ⟨"HopRules", nw_i 777 (by decide +kernel) rfl⟩⟩
theorem fr_X11_131 : FR RX11 131 3 5 := ⟨RX0, TX0, 13, rfl, cw_3, by decide, rfl, Or.inr ⟨"HopRules", nw_i 782 (by decide +kernel) rfl⟩⟩
theorem vw_X11_135 : VW RX11 135 yJ0_length_8abf5 cJ0_length_8abf5 1 (some .int) 0 := ⟨⟨aw_i 608 (by decide +kernel) rfl, aw_i 113 (by decide +kernel) rfl, by decide +kernel, by decide +kernel, by decide +kernel⟩, Or.inl (aw_i 852 (by decide +kernel) rfl)⟩
theorem vw_X11_145 : VW RX11 145 yJ0_charAt_5068e cJ0_charAt_5068e 2 (some .char) 1 := ⟨⟨aw_i 857 (by decide +kernel) rfl, aw_i 113 (by decide +kernel) rfl, by decide +kernel, by decide +kernel, by decide +kernel⟩, Or.inl (aw_i 854 (by decide +kernel) rfl)⟩
theorem iw_J0_charAt_5068e : Cond.instanceMethod yJ0_charAt_5068e ∈ AW := aw_i 855 (by decide +kernel) rfl
theorem sw_J0_charAt_5068e : Cond.selects yJ0_charAt_5068e.cls yJ0_charAt_5068e yJ0_charAt_5068e ∈ AW := aw_i 856 (by decide +kernel) rfl
theorem vw_X11_151 : VW RX11 151 yJx4a65c_get_915e3 cJx4a65c_get_915e3 2 (some (.object "java/lang/Object")) 1 := ⟨⟨aw_i 320 (by decide +kernel) rfl, aw_i 93 (by decide +kernel) rfl, by decide +kernel, by decide +kernel, by decide +kernel⟩, Or.inl (aw_i 317 (by decide +kernel) rfl)⟩
theorem iw_Jx4a65c_get_915e3 : Cond.instanceMethod yJx4a65c_get_915e3 ∈ AW := aw_i 318 (by decide +kernel) rfl
theorem sw_Jx4a65c_get_915e3 : Cond.selects yJx4a65c_get_915e3.cls yJx4a65c_get_915e3 yJx4a65c_get_915e3 ∈ AW := aw_i 319 (by decide +kernel) rfl
theorem ck_X11_58 : Cond.classLink RX11 58 RX5 ∈ AW := aw_i 331 (by decide +kernel) rfl
theorem fr_X11_155 : FR RX11 155 8 1 := ⟨RX5, TX5, 5, rfl, cw_8, by decide, rfl, Or.inr ⟨"HopRules", nw_i 377 (by decide +kernel) rfl⟩⟩
theorem fr_X11_158 : FR RX11 158 8 2 := ⟨RX5, TX5, 5, rfl, cw_8, by decide, rfl, Or.inr ⟨"HopRules", nw_i 379 (by decide +kernel) rfl⟩⟩
theorem vw_X11_161 : VW RX11 161 yX11_isAddress cX11_isAddress 2 (some .boolean) 1 := ⟨⟨aw_i 835 (by decide +kernel) rfl, aw_i 90 (by decide +kernel) rfl, by decide +kernel, by decide +kernel, by decide +kernel⟩, Or.inl (aw_i 832 (by decide +kernel) rfl)⟩
theorem iw_X11_isAddress : Cond.instanceMethod yX11_isAddress ∈ AW := aw_i 834 (by decide +kernel) rfl
theorem sw_X11_isAddress : Cond.selects yX11_isAddress.cls yX11_isAddress yX11_isAddress ∈ AW := aw_i 11 (by decide +kernel) rfl
theorem fr_X11_16 : FR RX11 16 14 1 := ⟨RX11, TX11, 10, rfl, cw_14, by decide, rfl, Or.inl (aw_i 193 (by decide +kernel) rfl)⟩
theorem ck_X11_111 : Cond.classLink RX11 111 RX0 ∈ AW := aw_i 500 (by decide +kernel) rfl
theorem vw_X11_166 : VW RX11 166 yX11_findAddress cX11_findAddress 7 (some (.object "HopRules$Address")) 4 := ⟨⟨aw_i 499 (by decide +kernel) rfl, aw_i 90 (by decide +kernel) rfl, by decide +kernel, by decide +kernel, by decide +kernel⟩, Or.inl (aw_i 496 (by decide +kernel) rfl)⟩
theorem iw_X11_findAddress : Cond.instanceMethod yX11_findAddress ∈ AW := aw_i 498 (by decide +kernel) rfl
theorem sw_X11_findAddress : Cond.selects yX11_findAddress.cls yX11_findAddress yX11_findAddress ∈ AW := aw_i 8 (by decide +kernel) rfl
theorem fr_X11_170 : FR RX11 170 3 0 := ⟨RX0, TX0, 13, rfl, cw_3, by decide, rfl, Or.inr ⟨"HopRules", nw_i 767 (by decide +kernel) rfl⟩⟩
theorem nwd_X11_111 : NWd RX11 111 3 RX0 13 [.int 0, .int 0, .null, .int 0, .int 0, .null, .null, .int 0, .int 0, .int 0, .int 0, .int 0, .null] := ⟨TX0, tyX0, rfl, cw_3, tyX0_ok, aw_i 500 (by decide +kernel) rfl, aw_i 502 (by decide +kernel) rfl, aw_i 110 (by decide +kernel) rfl, fun j hj => by rcases j with _ | _ | _ | _ | _ | _ | _ | _ | _ | _ | _ | _ | _ | j <;> first | rfl | omega⟩
theorem vw_X11_173 : VW RX11 173 yX0_init cX0_init 6 none 5 := ⟨⟨aw_i 505 (by decide +kernel) rfl, aw_i 110 (by decide +kernel) rfl, by decide +kernel, by decide +kernel, by decide +kernel⟩, Or.inr ⟨"HopRules", nw_i 503 (by decide +kernel) rfl⟩⟩
theorem iw_X0_init : Cond.instanceMethod yX0_init ∈ AW := aw_i 504 (by decide +kernel) rfl
theorem fw_X11_178 : FW RX11 178 3 6 2 false := ⟨RX0, TX0, 13, tyX0, rfl, cw_3, by decide, rfl, tyX0_ok, nmX0, rfl, rfl, (fun h => by cases h), Or.inr ⟨rfl, "HopRules", nw_i 783 (by decide +kernel) rfl⟩⟩
theorem fw_X11_182 : FW RX11 182 3 7 0 false := ⟨RX0, TX0, 13, tyX0, rfl, cw_3, by decide, rfl, tyX0_ok, nmX0, rfl, rfl, (fun h => by cases h), Or.inr ⟨rfl, "HopRules", nw_i 784 (by decide +kernel) rfl⟩⟩
theorem vw_X11_185 : VW RX11 185 yX0_origin cX0_origin 2 (some .int) 0 := ⟨⟨aw_i 887 (by decide +kernel) rfl, aw_i 110 (by decide +kernel) rfl, by decide +kernel, by decide +kernel, by decide +kernel⟩, Or.inr ⟨"HopRules", nw_i 884 (by decide +kernel) rfl⟩⟩
theorem iw_X0_origin : Cond.instanceMethod yX0_origin ∈ AW := aw_i 886 (by decide +kernel) rfl
theorem sw_X0_origin : Cond.selects yX0_origin.cls yX0_origin yX0_origin ∈ AW := aw_i 12 (by decide +kernel) rfl
theorem fw_X11_190 : FW RX11 190 3 8 0 false := ⟨RX0, TX0, 13, tyX0, rfl, cw_3, by decide, rfl, tyX0_ok, nmX0, rfl, rfl, (fun h => by cases h), Or.inr ⟨rfl, "HopRules", nw_i 786 (by decide +kernel) rfl⟩⟩
theorem fw_X11_193 : FW RX11 193 3 9 1 false := ⟨RX0, TX0, 13, tyX0, rfl, cw_3, by decide, rfl, tyX0_ok, nmX0, rfl, rfl, (fun h => by cases h), Or.inr ⟨rfl, "HopRules", nw_i 787 (by decide +kernel) rfl⟩⟩
theorem fw_X11_196 : FW RX11 196 3 10 0 false := ⟨RX0, TX0, 13, tyX0, rfl, cw_3, by decide, rfl, tyX0_ok, nmX0, rfl, rfl, (fun h => by cases h), Or.inr ⟨rfl, "HopRules", nw_i 789 (by decide +kernel) rfl⟩⟩
theorem fw_X11_199 : FW RX11 199 3 11 0 false := ⟨RX0, TX0, 13, tyX0, rfl, cw_3, by decide, rfl, tyX0_ok, nmX0, rfl, rfl, (fun h => by cases h), Or.inr ⟨rfl, "HopRules", nw_i 791 (by decide +kernel) rfl⟩⟩
theorem cw_6 : ∀ w ∈ u_ws RX3 TX3 6, w ∈ AW := aw_sub [918, 920, 922, 924, 926, 928] (by decide +kernel) (by decide +kernel)
theorem nwd_X11_206 : NWd RX11 206 6 RX3 6 [.int 0, .int 0, .null, .int 0, .int 0, .int 0] := ⟨TX3, tyX3, rfl, cw_6, tyX3_ok, aw_i 898 (by decide +kernel) rfl, aw_i 899 (by decide +kernel) rfl, aw_i 118 (by decide +kernel) rfl, fun j hj => by rcases j with _ | _ | _ | _ | _ | _ | j <;> first | rfl | omega⟩
theorem vw_X11_208 : VW RX11 208 yX3_init cX3_init 7 none 6 := ⟨⟨aw_i 902 (by decide +kernel) rfl, aw_i 118 (by decide +kernel) rfl, by decide +kernel, by decide +kernel, by decide +kernel⟩, Or.inr ⟨"HopRules", nw_i 900 (by decide +kernel) rfl⟩⟩
theorem iw_X3_init : Cond.instanceMethod yX3_init ∈ AW := aw_i 901 (by decide +kernel) rfl
theorem fw_X11_211 : FW RX11 211 3 12 2 false := ⟨RX0, TX0, 13, tyX0, rfl, cw_3, by decide, rfl, tyX0_ok, nmX0, rfl, rfl, (fun h => by cases h), Or.inr ⟨rfl, "HopRules", nw_i 793 (by decide +kernel) rfl⟩⟩
theorem fr_X11_215 : FR RX11 215 14 7 := ⟨RX11, TX11, 10, rfl, cw_14, by decide, rfl, Or.inl (aw_i 199 (by decide +kernel) rfl)⟩
theorem fw_X11_215 : FW RX11 215 14 7 1 false := ⟨RX11, TX11, 10, tyX11, rfl, cw_14, by decide, rfl, tyX11_ok, nmX11, rfl, rfl, (fun h => by cases h), Or.inl (aw_i 199 (by decide +kernel) rfl)⟩
theorem vw_X11_218 : VW RX11 218 yX11_pageAt cX11_pageAt 2 (some (.object "HopRules$Page")) 1 := ⟨⟨aw_i 941 (by decide +kernel) rfl, aw_i 90 (by decide +kernel) rfl, by decide +kernel, by decide +kernel, by decide +kernel⟩, Or.inl (aw_i 938 (by decide +kernel) rfl)⟩
theorem iw_X11_pageAt : Cond.instanceMethod yX11_pageAt ∈ AW := aw_i 940 (by decide +kernel) rfl
theorem sw_X11_pageAt : Cond.selects yX11_pageAt.cls yX11_pageAt yX11_pageAt ∈ AW := aw_i 13 (by decide +kernel) rfl
theorem fr_X11_19 : FR RX11 19 14 2 := ⟨RX11, TX11, 10, rfl, cw_14, by decide, rfl, Or.inl (aw_i 194 (by decide +kernel) rfl)⟩
theorem cw_10 : ∀ w ∈ u_ws RX7 TX7 3, w ∈ AW := aw_sub [958, 960, 962] (by decide +kernel) (by decide +kernel)
theorem nwd_X11_226 : NWd RX11 226 10 RX7 3 [.null, .null, .int 0] := ⟨TX7, tyX7, rfl, cw_10, tyX7_ok, aw_i 943 (by decide +kernel) rfl, aw_i 946 (by decide +kernel) rfl, aw_i 119 (by decide +kernel) rfl, fun j hj => by rcases j with _ | _ | _ | j <;> first | rfl | omega⟩
theorem vw_X11_228 : VW RX11 228 yX7_init cX7_init 4 none 3 := ⟨⟨aw_i 949 (by decide +kernel) rfl, aw_i 119 (by decide +kernel) rfl, by decide +kernel, by decide +kernel, by decide +kernel⟩, Or.inr ⟨"HopRules", nw_i 947 (by decide +kernel) rfl⟩⟩
theorem iw_X7_init : Cond.instanceMethod yX7_init ∈ AW := aw_i 948 (by decide +kernel) rfl
theorem fr_X11_22 : FR RX11 22 14 3 := ⟨RX11, TX11, 10, rfl, cw_14, by decide, rfl, Or.inl (aw_i 195 (by decide +kernel) rfl)⟩
theorem fr_X11_235 : FR RX11 235 10 1 := ⟨RX7, TX7, 3, rfl, cw_10, by decide, rfl, Or.inr ⟨"HopRules", nw_i 956 (by decide +kernel) rfl⟩⟩
theorem cw_13 : ∀ w ∈ u_ws RX10 TX10 8, w ∈ AW := aw_sub [1014, 1016, 1018, 1020, 1022, 1024, 1026, 1028] (by decide +kernel) (by decide +kernel)
theorem nwd_X11_240 : NWd RX11 240 13 RX10 8 [.null, .int 0, .int 0, .int 0, .null, .int 0, .int 0, .int 0] := ⟨TX10, tyX10, rfl, cw_13, tyX10_ok, aw_i 975 (by decide +kernel) rfl, aw_i 976 (by decide +kernel) rfl, aw_i 120 (by decide +kernel) rfl, fun j hj => by rcases j with _ | _ | _ | _ | _ | _ | _ | _ | j <;> first | rfl | omega⟩
theorem vw_X11_242 : VW RX11 242 yX10_init cX10_init 6 none 5 := ⟨⟨aw_i 979 (by decide +kernel) rfl, aw_i 120 (by decide +kernel) rfl, by decide +kernel, by decide +kernel, by decide +kernel⟩, Or.inr ⟨"HopRules", nw_i 977 (by decide +kernel) rfl⟩⟩
theorem iw_X10_init : Cond.instanceMethod yX10_init ∈ AW := aw_i 978 (by decide +kernel) rfl
theorem vw_X11_245 : VW RX11 245 yX11_takeHop cX11_takeHop 7 (some (.object "HopRules$Address")) 2 := ⟨⟨aw_i 1034 (by decide +kernel) rfl, aw_i 90 (by decide +kernel) rfl, by decide +kernel, by decide +kernel, by decide +kernel⟩, Or.inl (aw_i 1031 (by decide +kernel) rfl)⟩
theorem iw_X11_takeHop : Cond.instanceMethod yX11_takeHop ∈ AW := aw_i 1033 (by decide +kernel) rfl
theorem sw_X11_takeHop : Cond.selects yX11_takeHop.cls yX11_takeHop yX11_takeHop ∈ AW := aw_i 16 (by decide +kernel) rfl
theorem vw_X11_249 : VW RX11 249 yX11_judge cX11_judge 4 (some .int) 1 := ⟨⟨aw_i 1356 (by decide +kernel) rfl, aw_i 90 (by decide +kernel) rfl, by decide +kernel, by decide +kernel, by decide +kernel⟩, Or.inl (aw_i 1354 (by decide +kernel) rfl)⟩
theorem tw_X11_judge : Cond.static yX11_judge ∈ AW := aw_i 1355 (by decide +kernel) rfl
theorem fr_X11_255 : FR RX11 255 14 8 := ⟨RX11, TX11, 10, rfl, cw_14, by decide, rfl, Or.inl (aw_i 200 (by decide +kernel) rfl)⟩
theorem fw_X11_255 : FW RX11 255 14 8 0 false := ⟨RX11, TX11, 10, tyX11, rfl, cw_14, by decide, rfl, tyX11_ok, nmX11, rfl, rfl, (fun h => by cases h), Or.inl (aw_i 200 (by decide +kernel) rfl)⟩
theorem fr_X11_31 : FR RX11 31 14 5 := ⟨RX11, TX11, 10, rfl, cw_14, by decide, rfl, Or.inl (aw_i 197 (by decide +kernel) rfl)⟩
theorem vw_X11_258 : VW RX11 258 yX6_dropGone cX6_dropGone 3 none 1 := ⟨⟨aw_i 1368 (by decide +kernel) rfl, aw_i 94 (by decide +kernel) rfl, by decide +kernel, by decide +kernel, by decide +kernel⟩, Or.inr ⟨"HopRules", nw_i 1365 (by decide +kernel) rfl⟩⟩
theorem iw_X6_dropGone : Cond.instanceMethod yX6_dropGone ∈ AW := aw_i 1367 (by decide +kernel) rfl
theorem sw_X6_dropGone : Cond.selects yX6_dropGone.cls yX6_dropGone yX6_dropGone ∈ AW := aw_i 45 (by decide +kernel) rfl
theorem vw_X11_262 : VW RX11 262 yX11_dropGonePreflights cX11_dropGonePreflights 2 none 0 := ⟨⟨aw_i 1376 (by decide +kernel) rfl, aw_i 90 (by decide +kernel) rfl, by decide +kernel, by decide +kernel, by decide +kernel⟩, Or.inl (aw_i 1373 (by decide +kernel) rfl)⟩
theorem iw_X11_dropGonePreflights : Cond.instanceMethod yX11_dropGonePreflights ∈ AW := aw_i 1375 (by decide +kernel) rfl
theorem sw_X11_dropGonePreflights : Cond.selects yX11_dropGonePreflights.cls yX11_dropGonePreflights yX11_dropGonePreflights ∈ AW := aw_i 47 (by decide +kernel) rfl
theorem ck_X11_226 : Cond.classLink RX11 226 RX7 ∈ AW := aw_i 943 (by decide +kernel) rfl
theorem vw_X11_267 : VW RX11 267 yX11_unmixed cX11_unmixed 4 (some (.object "HopRules$Address")) 2 := ⟨⟨aw_i 1038 (by decide +kernel) rfl, aw_i 90 (by decide +kernel) rfl, by decide +kernel, by decide +kernel, by decide +kernel⟩, Or.inl (aw_i 1035 (by decide +kernel) rfl)⟩
theorem iw_X11_unmixed : Cond.instanceMethod yX11_unmixed ∈ AW := aw_i 1037 (by decide +kernel) rfl
theorem sw_X11_unmixed : Cond.selects yX11_unmixed.cls yX11_unmixed yX11_unmixed ∈ AW := aw_i 17 (by decide +kernel) rfl
theorem fr_X11_270 : FR RX11 270 13 7 := ⟨RX10, TX10, 8, rfl, cw_13, by decide, rfl, Or.inr ⟨"HopRules", nw_i 1013 (by decide +kernel) rfl⟩⟩
theorem vw_X11_273 : VW RX11 273 yX0_siteCode cX0_siteCode 1 (some .int) 0 := ⟨⟨aw_i 990 (by decide +kernel) rfl, aw_i 110 (by decide +kernel) rfl, by decide +kernel, by decide +kernel, by decide +kernel⟩, Or.inr ⟨"HopRules", nw_i 1042 (by decide +kernel) rfl⟩⟩
theorem iw_X0_siteCode : Cond.instanceMethod yX0_siteCode ∈ AW := aw_i 989 (by decide +kernel) rfl
theorem sw_X0_siteCode : Cond.selects yX0_siteCode.cls yX0_siteCode yX0_siteCode ∈ AW := aw_i 15 (by decide +kernel) rfl
theorem fr_X11_276 : FR RX11 276 13 0 := ⟨RX10, TX10, 8, rfl, cw_13, by decide, rfl, Or.inr ⟨"HopRules", nw_i 995 (by decide +kernel) rfl⟩⟩
theorem fr_X11_279 : FR RX11 279 10 0 := ⟨RX7, TX7, 3, rfl, cw_10, by decide, rfl, Or.inr ⟨"HopRules", nw_i 954 (by decide +kernel) rfl⟩⟩
theorem fw_X11_270 : FW RX11 270 13 7 1 false := ⟨RX10, TX10, 8, tyX10, rfl, cw_13, by decide, rfl, tyX10_ok, nmX10, rfl, rfl, (fun h => by cases h), Or.inr ⟨rfl, "HopRules", nw_i 1013 (by decide +kernel) rfl⟩⟩
theorem cw_7 : ∀ w ∈ u_ws RX4 TX4 12, w ∈ AW := aw_sub [1087, 1089, 1091, 1093, 1095, 1097, 1099, 1101, 1103, 1105, 1107, 1109] (by decide +kernel) (by decide +kernel)
theorem nwd_X11_282 : NWd RX11 282 7 RX4 12 [.null, .int 0, .int 0, .int 0, .int 0, .int 0, .int 0, .null, .int 0, .int 0, .int 0, .int 0] := ⟨TX4, tyX4, rfl, cw_7, tyX4_ok, aw_i 1043 (by decide +kernel) rfl, aw_i 1044 (by decide +kernel) rfl, aw_i 121 (by decide +kernel) rfl, fun j hj => by rcases j with _ | _ | _ | _ | _ | _ | _ | _ | _ | _ | _ | _ | j <;> first | rfl | omega⟩
theorem vw_X11_284 : VW RX11 284 yX4_init cX4_init 3 none 2 := ⟨⟨aw_i 1047 (by decide +kernel) rfl, aw_i 121 (by decide +kernel) rfl, by decide +kernel, by decide +kernel, by decide +kernel⟩, Or.inr ⟨"HopRules", nw_i 1045 (by decide +kernel) rfl⟩⟩
theorem iw_X4_init : Cond.instanceMethod yX4_init ∈ AW := aw_i 1046 (by decide +kernel) rfl
theorem fr_X11_287 : FR RX11 287 13 4 := ⟨RX10, TX10, 8, rfl, cw_13, by decide, rfl, Or.inr ⟨"HopRules", nw_i 1005 (by decide +kernel) rfl⟩⟩
theorem vw_X11_290 : VW RX11 290 yX11_isMixed cX11_isMixed 2 (some .boolean) 2 := ⟨⟨aw_i 1041 (by decide +kernel) rfl, aw_i 90 (by decide +kernel) rfl, by decide +kernel, by decide +kernel, by decide +kernel⟩, Or.inl (aw_i 1039 (by decide +kernel) rfl)⟩
theorem tw_X11_isMixed : Cond.static yX11_isMixed ∈ AW := aw_i 1040 (by decide +kernel) rfl
theorem fr_X11_294 : FR RX11 294 13 1 := ⟨RX10, TX10, 8, rfl, cw_13, by decide, rfl, Or.inr ⟨"HopRules", nw_i 998 (by decide +kernel) rfl⟩⟩
theorem vw_X11_297 : VW RX11 297 yX11_isCross cX11_isCross 2 (some .boolean) 2 := ⟨⟨aw_i 1115 (by decide +kernel) rfl, aw_i 90 (by decide +kernel) rfl, by decide +kernel, by decide +kernel, by decide +kernel⟩, Or.inl (aw_i 1113 (by decide +kernel) rfl)⟩
theorem tw_X11_isCross : Cond.static yX11_isCross ∈ AW := aw_i 1114 (by decide +kernel) rfl
theorem vw_X11_301 : VW RX11 301 yX11_passesPreflight cX11_passesPreflight 6 (some .boolean) 2 := ⟨⟨aw_i 1119 (by decide +kernel) rfl, aw_i 90 (by decide +kernel) rfl, by decide +kernel, by decide +kernel, by decide +kernel⟩, Or.inl (aw_i 1116 (by decide +kernel) rfl)⟩
theorem iw_X11_passesPreflight : Cond.instanceMethod yX11_passesPreflight ∈ AW := aw_i 1118 (by decide +kernel) rfl
theorem sw_X11_passesPreflight : Cond.selects yX11_passesPreflight.cls yX11_passesPreflight yX11_passesPreflight ∈ AW := aw_i 20 (by decide +kernel) rfl
theorem fw_X11_304 : FW RX11 304 7 9 1 false := ⟨RX4, TX4, 12, tyX4, rfl, cw_7, by decide, rfl, tyX4_ok, nmX4, rfl, rfl, (fun h => by cases h), Or.inr ⟨rfl, "HopRules", nw_i 1084 (by decide +kernel) rfl⟩⟩
theorem fr_X11_304 : FR RX11 304 7 9 := ⟨RX4, TX4, 12, rfl, cw_7, by decide, rfl, Or.inr ⟨"HopRules", nw_i 1084 (by decide +kernel) rfl⟩⟩
theorem vw_X11_307 : VW RX11 307 yX11_usesCredentials cX11_usesCredentials 2 (some .boolean) 2 := ⟨⟨aw_i 1212 (by decide +kernel) rfl, aw_i 90 (by decide +kernel) rfl, by decide +kernel, by decide +kernel, by decide +kernel⟩, Or.inl (aw_i 1210 (by decide +kernel) rfl)⟩
theorem tw_X11_usesCredentials : Cond.static yX11_usesCredentials ∈ AW := aw_i 1211 (by decide +kernel) rfl
theorem fr_X11_38 : FR RX11 38 14 6 := ⟨RX11, TX11, 10, rfl, cw_14, by decide, rfl, Or.inl (aw_i 198 (by decide +kernel) rfl)⟩
theorem fr_X11_310 : FR RX11 310 7 0 := ⟨RX4, TX4, 12, rfl, cw_7, by decide, rfl, Or.inr ⟨"HopRules", nw_i 1063 (by decide +kernel) rfl⟩⟩
theorem fr_X11_311 : FR RX11 311 7 5 := ⟨RX4, TX4, 12, rfl, cw_7, by decide, rfl, Or.inr ⟨"HopRules", nw_i 1077 (by decide +kernel) rfl⟩⟩
theorem vw_X11_314 : VW RX11 314 yX8_use cX8_use 7 none 4 := ⟨⟨aw_i 1159 (by decide +kernel) rfl, aw_i 95 (by decide +kernel) rfl, by decide +kernel, by decide +kernel, by decide +kernel⟩, Or.inr ⟨"HopRules", nw_i 1156 (by decide +kernel) rfl⟩⟩
theorem iw_X8_use : Cond.instanceMethod yX8_use ∈ AW := aw_i 1158 (by decide +kernel) rfl
theorem sw_X8_use : Cond.selects yX8_use.cls yX8_use yX8_use ∈ AW := aw_i 23 (by decide +kernel) rfl
theorem vw_X11_318 : VW RX11 318 yX6_send cX6_send 6 none 2 := ⟨⟨aw_i 1216 (by decide +kernel) rfl, aw_i 94 (by decide +kernel) rfl, by decide +kernel, by decide +kernel, by decide +kernel⟩, Or.inr ⟨"HopRules", nw_i 1213 (by decide +kernel) rfl⟩⟩
theorem iw_X6_send : Cond.instanceMethod yX6_send ∈ AW := aw_i 1215 (by decide +kernel) rfl
theorem sw_X6_send : Cond.selects yX6_send.cls yX6_send yX6_send ∈ AW := aw_i 27 (by decide +kernel) rfl
theorem vw_X11_322 : VW RX11 322 yX6_take cX6_take 7 none 3 := ⟨⟨aw_i 1265 (by decide +kernel) rfl, aw_i 94 (by decide +kernel) rfl, by decide +kernel, by decide +kernel, by decide +kernel⟩, Or.inr ⟨"HopRules", nw_i 1262 (by decide +kernel) rfl⟩⟩
theorem iw_X6_take : Cond.instanceMethod yX6_take ∈ AW := aw_i 1264 (by decide +kernel) rfl
theorem sw_X6_take : Cond.selects yX6_take.cls yX6_take yX6_take ∈ AW := aw_i 35 (by decide +kernel) rfl
theorem vw_X11_326 : VW RX11 326 yX11_isLetByAnswer cX11_isLetByAnswer 4 (some .boolean) 2 := ⟨⟨aw_i 1201 (by decide +kernel) rfl, aw_i 90 (by decide +kernel) rfl, by decide +kernel, by decide +kernel, by decide +kernel⟩, Or.inl (aw_i 1199 (by decide +kernel) rfl)⟩
theorem tw_X11_isLetByAnswer : Cond.static yX11_isLetByAnswer ∈ AW := aw_i 1200 (by decide +kernel) rfl
theorem fw_X11_329 : FW RX11 329 7 10 1 false := ⟨RX4, TX4, 12, tyX4, rfl, cw_7, by decide, rfl, tyX4_ok, nmX4, rfl, rfl, (fun h => by cases h), Or.inr ⟨rfl, "HopRules", nw_i 1085 (by decide +kernel) rfl⟩⟩
theorem fr_X11_329 : FR RX11 329 7 10 := ⟨RX4, TX4, 12, rfl, cw_7, by decide, rfl, Or.inr ⟨"HopRules", nw_i 1085 (by decide +kernel) rfl⟩⟩
theorem vw_X11_332 : VW RX11 332 yX11_follow cX11_follow 3 (some (.object "HopRules$Address")) 2 := ⟨⟨aw_i 1350 (by decide +kernel) rfl, aw_i 90 (by decide +kernel) rfl, by decide +kernel, by decide +kernel, by decide +kernel⟩, Or.inl (aw_i 1348 (by decide +kernel) rfl)⟩
theorem tw_X11_follow : Cond.static yX11_follow ∈ AW := aw_i 1349 (by decide +kernel) rfl
theorem fr_X11_336 : FR RX11 336 7 2 := ⟨RX4, TX4, 12, rfl, cw_7, by decide, rfl, Or.inr ⟨"HopRules", nw_i 1069 (by decide +kernel) rfl⟩⟩
theorem fr_X11_339 : FR RX11 339 13 2 := ⟨RX10, TX10, 8, rfl, cw_13, by decide, rfl, Or.inr ⟨"HopRules", nw_i 1001 (by decide +kernel) rfl⟩⟩
theorem fr_X11_190 : FR RX11 190 3 8 := ⟨RX0, TX0, 13, rfl, cw_3, by decide, rfl, Or.inr ⟨"HopRules", nw_i 786 (by decide +kernel) rfl⟩⟩
theorem fr_X11_193 : FR RX11 193 3 9 := ⟨RX0, TX0, 13, rfl, cw_3, by decide, rfl, Or.inr ⟨"HopRules", nw_i 787 (by decide +kernel) rfl⟩⟩
theorem fr_X11_178 : FR RX11 178 3 6 := ⟨RX0, TX0, 13, rfl, cw_3, by decide, rfl, Or.inr ⟨"HopRules", nw_i 783 (by decide +kernel) rfl⟩⟩
theorem fw_X11_342 : FW RX11 342 7 11 1 false := ⟨RX4, TX4, 12, tyX4, rfl, cw_7, by decide, rfl, tyX4_ok, nmX4, rfl, rfl, (fun h => by cases h), Or.inr ⟨rfl, "HopRules", nw_i 1086 (by decide +kernel) rfl⟩⟩
theorem fw_X11_345 : FW RX11 345 13 6 1 false := ⟨RX10, TX10, 8, tyX10, rfl, cw_13, by decide, rfl, tyX10_ok, nmX10, rfl, rfl, (fun h => by cases h), Or.inr ⟨rfl, "HopRules", nw_i 1010 (by decide +kernel) rfl⟩⟩
theorem fr_X11_346 : FR RX11 346 13 5 := ⟨RX10, TX10, 8, rfl, cw_13, by decide, rfl, Or.inr ⟨"HopRules", nw_i 1008 (by decide +kernel) rfl⟩⟩
theorem fr_X11_182 : FR RX11 182 3 7 := ⟨RX0, TX0, 13, rfl, cw_3, by decide, rfl, Or.inr ⟨"HopRules", nw_i 784 (by decide +kernel) rfl⟩⟩
theorem vw_X11_349 : VW RX11 349 yX11_becomesGet cX11_becomesGet 2 (some .boolean) 2 := ⟨⟨aw_i 1353 (by decide +kernel) rfl, aw_i 90 (by decide +kernel) rfl, by decide +kernel, by decide +kernel, by decide +kernel⟩, Or.inl (aw_i 1351 (by decide +kernel) rfl)⟩
theorem tw_X11_becomesGet : Cond.static yX11_becomesGet ∈ AW := aw_i 1352 (by decide +kernel) rfl
theorem fw_X11_346 : FW RX11 346 13 5 0 false := ⟨RX10, TX10, 8, tyX10, rfl, cw_13, by decide, rfl, tyX10_ok, nmX10, rfl, rfl, (fun h => by cases h), Or.inr ⟨rfl, "HopRules", nw_i 1008 (by decide +kernel) rfl⟩⟩
theorem fr_X11_353 : FR RX11 353 7 1 := ⟨RX4, TX4, 12, rfl, cw_7, by decide, rfl, Or.inr ⟨"HopRules", nw_i 1066 (by decide +kernel) rfl⟩⟩
theorem fr_X11_354 : FR RX11 354 13 3 := ⟨RX10, TX10, 8, rfl, cw_13, by decide, rfl, Or.inr ⟨"HopRules", nw_i 1003 (by decide +kernel) rfl⟩⟩
theorem cw_12 : ∀ w ∈ u_ws RX9 TX9 6, w ∈ AW := aw_sub [1135, 1137, 1139, 1141, 1143, 1145] (by decide +kernel) (by decide +kernel)
theorem nwd_X11_357 : NWd RX11 357 12 RX9 6 [.int 0, .null, .int 0, .int 0, .int 0, .int 0] := ⟨TX9, tyX9, rfl, cw_12, tyX9_ok, aw_i 1120 (by decide +kernel) rfl, aw_i 1121 (by decide +kernel) rfl, aw_i 122 (by decide +kernel) rfl, fun j hj => by rcases j with _ | _ | _ | _ | _ | _ | j <;> first | rfl | omega⟩
theorem vw_X11_359 : VW RX11 359 yX9_init cX9_init 4 none 3 := ⟨⟨aw_i 1124 (by decide +kernel) rfl, aw_i 122 (by decide +kernel) rfl, by decide +kernel, by decide +kernel, by decide +kernel⟩, Or.inr ⟨"HopRules", nw_i 1122 (by decide +kernel) rfl⟩⟩
theorem iw_X9_init : Cond.instanceMethod yX9_init ∈ AW := aw_i 1123 (by decide +kernel) rfl
theorem vw_X11_362 : VW RX11 362 yX11_findKept cX11_findKept 4 (some (.object "HopRules$Preflight")) 1 := ⟨⟨aw_i 1151 (by decide +kernel) rfl, aw_i 90 (by decide +kernel) rfl, by decide +kernel, by decide +kernel, by decide +kernel⟩, Or.inl (aw_i 1148 (by decide +kernel) rfl)⟩
theorem iw_X11_findKept : Cond.instanceMethod yX11_findKept ∈ AW := aw_i 1150 (by decide +kernel) rfl
theorem sw_X11_findKept : Cond.selects yX11_findKept.cls yX11_findKept yX11_findKept ∈ AW := aw_i 21 (by decide +kernel) rfl
theorem fr_X11_366 : FR RX11 366 12 4 := ⟨RX9, TX9, 6, rfl, cw_12, by decide, rfl, Or.inr ⟨"HopRules", nw_i 1132 (by decide +kernel) rfl⟩⟩
theorem fr_X11_369 : FR RX11 369 14 9 := ⟨RX11, TX11, 10, rfl, cw_14, by decide, rfl, Or.inl (aw_i 201 (by decide +kernel) rfl)⟩
theorem fw_X11_369 : FW RX11 369 14 9 0 false := ⟨RX11, TX11, 10, tyX11, rfl, cw_14, by decide, rfl, tyX11_ok, nmX11, rfl, rfl, (fun h => by cases h), Or.inl (aw_i 201 (by decide +kernel) rfl)⟩
theorem fr_X11_199 : FR RX11 199 3 11 := ⟨RX0, TX0, 13, rfl, cw_3, by decide, rfl, Or.inr ⟨"HopRules", nw_i 791 (by decide +kernel) rfl⟩⟩
theorem vw_X11_372 : VW RX11 372 yX11_keep cX11_keep 3 none 1 := ⟨⟨aw_i 1205 (by decide +kernel) rfl, aw_i 90 (by decide +kernel) rfl, by decide +kernel, by decide +kernel, by decide +kernel⟩, Or.inl (aw_i 1202 (by decide +kernel) rfl)⟩
theorem iw_X11_keep : Cond.instanceMethod yX11_keep ∈ AW := aw_i 1204 (by decide +kernel) rfl
theorem sw_X11_keep : Cond.selects yX11_keep.cls yX11_keep yX11_keep ∈ AW := aw_i 26 (by decide +kernel) rfl
theorem fr_X11_25 : FR RX11 25 14 4 := ⟨RX11, TX11, 10, rfl, cw_14, by decide, rfl, Or.inl (aw_i 196 (by decide +kernel) rfl)⟩
theorem ck_X11_357 : Cond.classLink RX11 357 RX9 ∈ AW := aw_i 1120 (by decide +kernel) rfl
theorem vw_X11_376 : VW RX11 376 yX9_isForSame cX9_isForSame 2 (some .boolean) 1 := ⟨⟨aw_i 1155 (by decide +kernel) rfl, aw_i 122 (by decide +kernel) rfl, by decide +kernel, by decide +kernel, by decide +kernel⟩, Or.inr ⟨"HopRules", nw_i 1152 (by decide +kernel) rfl⟩⟩
theorem iw_X9_isForSame : Cond.instanceMethod yX9_isForSame ∈ AW := aw_i 1154 (by decide +kernel) rfl
theorem sw_X9_isForSame : Cond.selects yX9_isForSame.cls yX9_isForSame yX9_isForSame ∈ AW := aw_i 22 (by decide +kernel) rfl
theorem vw_X11_380 : VW RX11 380 yJx4a65c_set_bcc79 cJx4a65c_set_bcc79 4 (some (.object "java/lang/Object")) 2 := ⟨⟨aw_i 1209 (by decide +kernel) rfl, aw_i 93 (by decide +kernel) rfl, by decide +kernel, by decide +kernel, by decide +kernel⟩, Or.inl (aw_i 1206 (by decide +kernel) rfl)⟩
theorem iw_Jx4a65c_set_bcc79 : Cond.instanceMethod yJx4a65c_set_bcc79 ∈ AW := aw_i 1207 (by decide +kernel) rfl
theorem sw_Jx4a65c_set_bcc79 : Cond.selects yJx4a65c_set_bcc79.cls yJx4a65c_set_bcc79 yJx4a65c_set_bcc79 ∈ AW := aw_i 1208 (by decide +kernel) rfl
theorem fr_X11_384 : FR RX11 384 12 5 := ⟨RX9, TX9, 6, rfl, cw_12, by decide, rfl, Or.inr ⟨"HopRules", nw_i 1134 (by decide +kernel) rfl⟩⟩
theorem vw_X11_387 : VW RX11 387 yJx4a65c_remove_915e3 cJx4a65c_remove_915e3 4 (some (.object "java/lang/Object")) 1 := ⟨⟨aw_i 1171 (by decide +kernel) rfl, aw_i 93 (by decide +kernel) rfl, by decide +kernel, by decide +kernel, by decide +kernel⟩, Or.inl (aw_i 1377 (by decide +kernel) rfl)⟩
theorem iw_Jx4a65c_remove_915e3 : Cond.instanceMethod yJx4a65c_remove_915e3 ∈ AW := aw_i 1169 (by decide +kernel) rfl
theorem sw_Jx4a65c_remove_915e3 : Cond.selects yJx4a65c_remove_915e3.cls yJx4a65c_remove_915e3 yJx4a65c_remove_915e3 ∈ AW := aw_i 1170 (by decide +kernel) rfl
theorem ck_X11_282 : Cond.classLink RX11 282 RX4 ∈ AW := aw_i 1043 (by decide +kernel) rfl
theorem fr_X11_342 : FR RX11 342 7 11 := ⟨RX4, TX4, 12, rfl, cw_7, by decide, rfl, Or.inr ⟨"HopRules", nw_i 1086 (by decide +kernel) rfl⟩⟩
theorem vw_X11_390 : VW RX11 390 yX11_requestAt cX11_requestAt 2 (some (.object "HopRules$Request")) 1 := ⟨⟨aw_i 1388 (by decide +kernel) rfl, aw_i 90 (by decide +kernel) rfl, by decide +kernel, by decide +kernel, by decide +kernel⟩, Or.inl (aw_i 1385 (by decide +kernel) rfl)⟩
theorem iw_X11_requestAt : Cond.instanceMethod yX11_requestAt ∈ AW := aw_i 1387 (by decide +kernel) rfl
theorem sw_X11_requestAt : Cond.selects yX11_requestAt.cls yX11_requestAt yX11_requestAt ∈ AW := aw_i 48 (by decide +kernel) rfl
theorem vw_X11_394 : VW RX11 394 yX11_hopAt cX11_hopAt 4 (some (.object "HopRules$Hop")) 2 := ⟨⟨aw_i 1400 (by decide +kernel) rfl, aw_i 90 (by decide +kernel) rfl, by decide +kernel, by decide +kernel, by decide +kernel⟩, Or.inl (aw_i 1397 (by decide +kernel) rfl)⟩
theorem iw_X11_hopAt : Cond.instanceMethod yX11_hopAt ∈ AW := aw_i 1399 (by decide +kernel) rfl
theorem sw_X11_hopAt : Cond.selects yX11_hopAt.cls yX11_hopAt yX11_hopAt ∈ AW := aw_i 49 (by decide +kernel) rfl
theorem fr_X11_398 : FR RX11 398 7 6 := ⟨RX4, TX4, 12, rfl, cw_7, by decide, rfl, Or.inr ⟨"HopRules", nw_i 1079 (by decide +kernel) rfl⟩⟩
theorem fr_X11_403 : FR RX11 403 7 8 := ⟨RX4, TX4, 12, rfl, cw_7, by decide, rfl, Or.inr ⟨"HopRules", nw_i 1083 (by decide +kernel) rfl⟩⟩
theorem fr_X11_406 : FR RX11 406 7 7 := ⟨RX4, TX4, 12, rfl, cw_7, by decide, rfl, Or.inr ⟨"HopRules", nw_i 1081 (by decide +kernel) rfl⟩⟩
theorem fr_X11_410 : FR RX11 410 9 0 := ⟨RX6, TX6, 2, rfl, cw_9, by decide, rfl, Or.inr ⟨"HopRules", nw_i 168 (by decide +kernel) rfl⟩⟩
theorem ck_X11_415 : Cond.classLink RX11 415 RX2 ∈ AW := aw_i 1425 (by decide +kernel) rfl
theorem cw_5 : ∀ w ∈ u_ws RX2 TX2 6, w ∈ AW := aw_sub [1286, 1288, 1290, 1292, 1294, 1296] (by decide +kernel) (by decide +kernel)
theorem fr_X11_417 : FR RX11 417 5 3 := ⟨RX2, TX2, 6, rfl, cw_5, by decide, rfl, Or.inr ⟨"HopRules", nw_i 1282 (by decide +kernel) rfl⟩⟩
theorem fr_X11_420 : FR RX11 420 5 1 := ⟨RX2, TX2, 6, rfl, cw_5, by decide, rfl, Or.inr ⟨"HopRules", nw_i 1277 (by decide +kernel) rfl⟩⟩
theorem fr_X11_421 : FR RX11 421 5 0 := ⟨RX2, TX2, 6, rfl, cw_5, by decide, rfl, Or.inr ⟨"HopRules", nw_i 1274 (by decide +kernel) rfl⟩⟩
theorem vw_X11_422 : VW RX11 422 yX3_nameAndValue cX3_nameAndValue 1 (some .int) 0 := ⟨⟨aw_i 1257 (by decide +kernel) rfl, aw_i 118 (by decide +kernel) rfl, by decide +kernel, by decide +kernel, by decide +kernel⟩, Or.inr ⟨"HopRules", nw_i 1428 (by decide +kernel) rfl⟩⟩
theorem iw_X3_nameAndValue : Cond.instanceMethod yX3_nameAndValue ∈ AW := aw_i 1256 (by decide +kernel) rfl
theorem sw_X3_nameAndValue : Cond.selects yX3_nameAndValue.cls yX3_nameAndValue yX3_nameAndValue ∈ AW := aw_i 33 (by decide +kernel) rfl
theorem fr_X11_425 : FR RX11 425 11 1 := ⟨RX8, TX8, 2, rfl, cw_11, by decide, rfl, Or.inr ⟨"HopRules", nw_i 186 (by decide +kernel) rfl⟩⟩
theorem fr_X11_428 : FR RX11 428 11 0 := ⟨RX8, TX8, 2, rfl, cw_11, by decide, rfl, Or.inr ⟨"HopRules", nw_i 184 (by decide +kernel) rfl⟩⟩
theorem ck_X11_240 : Cond.classLink RX11 240 RX10 ∈ AW := aw_i 975 (by decide +kernel) rfl
theorem ob_X0_3 : Cond.methodLink RX0 3 Lib.objectInit ∈ AW := aw_i 506 (by decide +kernel) rfl
theorem fw_X0_9 : FW RX0 9 3 0 0 true := ⟨RX0, TX0, 13, tyX0, rfl, cw_3, by decide, rfl, tyX0_ok, nmX0, rfl, rfl, fun _ => rfl, Or.inl (aw_i 766 (by decide +kernel) rfl)⟩
theorem fw_X0_15 : FW RX0 15 3 1 0 true := ⟨RX0, TX0, 13, tyX0, rfl, cw_3, by decide, rfl, tyX0_ok, nmX0, rfl, rfl, fun _ => rfl, Or.inl (aw_i 768 (by decide +kernel) rfl)⟩
theorem fw_X0_18 : FW RX0 18 3 2 2 true := ⟨RX0, TX0, 13, tyX0, rfl, cw_3, by decide, rfl, tyX0_ok, nmX0, rfl, rfl, fun _ => rfl, Or.inl (aw_i 773 (by decide +kernel) rfl)⟩
theorem fw_X0_22 : FW RX0 22 3 3 0 true := ⟨RX0, TX0, 13, tyX0, rfl, cw_3, by decide, rfl, tyX0_ok, nmX0, rfl, rfl, fun _ => rfl, Or.inl (aw_i 776 (by decide +kernel) rfl)⟩
theorem fw_X0_25 : FW RX0 25 3 4 0 true := ⟨RX0, TX0, 13, tyX0, rfl, cw_3, by decide, rfl, tyX0_ok, nmX0, rfl, rfl, fun _ => rfl, Or.inl (aw_i 778 (by decide +kernel) rfl)⟩
theorem vw_X0_28 : VW RX0 28 yX0_write cX0_write 7 (some (.object "java/lang/String")) 4 := ⟨⟨aw_i 509 (by decide +kernel) rfl, aw_i 110 (by decide +kernel) rfl, by decide +kernel, by decide +kernel, by decide +kernel⟩, Or.inl (aw_i 507 (by decide +kernel) rfl)⟩
theorem tw_X0_write : Cond.static yX0_write ∈ AW := aw_i 508 (by decide +kernel) rfl
theorem fw_X0_32 : FW RX0 32 3 5 2 true := ⟨RX0, TX0, 13, tyX0, rfl, cw_3, by decide, rfl, tyX0_ok, nmX0, rfl, rfl, fun _ => rfl, Or.inl (aw_i 781 (by decide +kernel) rfl)⟩
theorem fw_X0_36 : FW RX0 36 3 8 0 false := ⟨RX0, TX0, 13, tyX0, rfl, cw_3, by decide, rfl, tyX0_ok, nmX0, rfl, rfl, (fun h => by cases h), Or.inl (aw_i 785 (by decide +kernel) rfl)⟩
theorem nwd_X0_39 : NWd RX0 39 1 RJ4 4 [.null, .int 0, .int 0, .int 0] := ⟨TJ4, tyJ4, rfl, cw_1, tyJ4_ok, aw_i 510 (by decide +kernel) rfl, aw_i 511 (by decide +kernel) rfl, aw_i 112 (by decide +kernel) rfl, fun j hj => by rcases j with _ | _ | _ | _ | j <;> first | rfl | omega⟩
theorem vw_X0_41 : VW RX0 41 yJ4_init_da8c8 cJ4_init_da8c8 1 none 0 := ⟨⟨aw_i 514 (by decide +kernel) rfl, aw_i 112 (by decide +kernel) rfl, by decide +kernel, by decide +kernel, by decide +kernel⟩, Or.inl (aw_i 512 (by decide +kernel) rfl)⟩
theorem vw_X0_46 : VW RX0 46 yJ4_append_15ec4 cJ4_append_15ec4 2 (some (.object "java/lang/StringBuilder")) 1 := ⟨⟨aw_i 546 (by decide +kernel) rfl, aw_i 112 (by decide +kernel) rfl, by decide +kernel, by decide +kernel, by decide +kernel⟩, Or.inl (aw_i 543 (by decide +kernel) rfl)⟩
theorem vw_X0_50 : VW RX0 50 yX5_appendTo cX5_appendTo 4 none 1 := ⟨⟨aw_i 651 (by decide +kernel) rfl, aw_i 105 (by decide +kernel) rfl, by decide +kernel, by decide +kernel, by decide +kernel⟩, Or.inr ⟨"HopRules", nw_i 648 (by decide +kernel) rfl⟩⟩
theorem iw_X5_appendTo : Cond.instanceMethod yX5_appendTo ∈ AW := aw_i 650 (by decide +kernel) rfl
theorem sw_X5_appendTo : Cond.selects yX5_appendTo.cls yX5_appendTo yX5_appendTo ∈ AW := aw_i 9 (by decide +kernel) rfl
theorem vw_X0_56 : VW RX0 56 yJ4_append_cf468 cJ4_append_cf468 2 (some (.object "java/lang/StringBuilder")) 1 := ⟨⟨aw_i 655 (by decide +kernel) rfl, aw_i 112 (by decide +kernel) rfl, by decide +kernel, by decide +kernel, by decide +kernel⟩, Or.inl (aw_i 672 (by decide +kernel) rfl)⟩
theorem iw_J4_append_cf468 : Cond.instanceMethod yJ4_append_cf468 ∈ AW := aw_i 653 (by decide +kernel) rfl
theorem sw_J4_append_cf468 : Cond.selects yJ4_append_cf468.cls yJ4_append_cf468 yJ4_append_cf468 ∈ AW := aw_i 654 (by decide +kernel) rfl
theorem vw_X0_59 : VW RX0 59 yJ4_append_bf812 cJ4_append_bf812 2 (some (.object "java/lang/StringBuilder")) 1 := ⟨⟨aw_i 676 (by decide +kernel) rfl, aw_i 112 (by decide +kernel) rfl, by decide +kernel, by decide +kernel, by decide +kernel⟩, Or.inl (aw_i 673 (by decide +kernel) rfl)⟩
theorem vw_X0_62 : VW RX0 62 yJ4_toString_0e30d cJ4_toString_0e30d 1 (some (.object "java/lang/String")) 0 := ⟨⟨aw_i 701 (by decide +kernel) rfl, aw_i 112 (by decide +kernel) rfl, by decide +kernel, by decide +kernel, by decide +kernel⟩, Or.inl (aw_i 698 (by decide +kernel) rfl)⟩
theorem fr_X0_15 : FR RX0 15 3 1 := ⟨RX0, TX0, 13, rfl, cw_3, by decide, rfl, Or.inl (aw_i 768 (by decide +kernel) rfl)⟩
theorem fr_X0_18 : FR RX0 18 3 2 := ⟨RX0, TX0, 13, rfl, cw_3, by decide, rfl, Or.inl (aw_i 773 (by decide +kernel) rfl)⟩
theorem fr_X0_66 : FR RX0 66 8 0 := ⟨RX5, TX5, 5, rfl, cw_8, by decide, rfl, Or.inr ⟨"HopRules", nw_i 375 (by decide +kernel) rfl⟩⟩
theorem fr_X0_22 : FR RX0 22 3 3 := ⟨RX0, TX0, 13, rfl, cw_3, by decide, rfl, Or.inl (aw_i 776 (by decide +kernel) rfl)⟩
theorem vw_X0_67 : VW RX0 67 yX5_siteHost cX5_siteHost 2 (some (.object "HopRules$Host")) 0 := ⟨⟨aw_i 480 (by decide +kernel) rfl, aw_i 105 (by decide +kernel) rfl, by decide +kernel, by decide +kernel, by decide +kernel⟩, Or.inr ⟨"HopRules", nw_i 991 (by decide +kernel) rfl⟩⟩
theorem ob_X1_1 : Cond.methodLink RX1 1 Lib.objectInit ∈ AW := aw_i 1181 (by decide +kernel) rfl
theorem cw_4 : ∀ w ∈ u_ws RX1 TX1 4, w ∈ AW := aw_sub [1189, 1191, 1193, 1195] (by decide +kernel) (by decide +kernel)
theorem fw_X1_7 : FW RX1 7 4 0 0 true := ⟨RX1, TX1, 4, tyX1, rfl, cw_4, by decide, rfl, tyX1_ok, nmX1, rfl, rfl, fun _ => rfl, Or.inl (aw_i 1182 (by decide +kernel) rfl)⟩
theorem fw_X1_13 : FW RX1 13 4 1 1 true := ⟨RX1, TX1, 4, tyX1, rfl, cw_4, by decide, rfl, tyX1_ok, nmX1, rfl, rfl, fun _ => rfl, Or.inl (aw_i 1184 (by decide +kernel) rfl)⟩
theorem fw_X1_17 : FW RX1 17 4 2 0 true := ⟨RX1, TX1, 4, tyX1, rfl, cw_4, by decide, rfl, tyX1_ok, nmX1, rfl, rfl, fun _ => rfl, Or.inl (aw_i 1186 (by decide +kernel) rfl)⟩
theorem ob_X2_3 : Cond.methodLink RX2 3 Lib.objectInit ∈ AW := aw_i 1269 (by decide +kernel) rfl
theorem fr_X2_9 : FR RX2 9 7 0 := ⟨RX4, TX4, 12, rfl, cw_7, by decide, rfl, Or.inr ⟨"HopRules", nw_i 1059 (by decide +kernel) rfl⟩⟩
theorem fr_X2_15 : FR RX2 15 3 2 := ⟨RX0, TX0, 13, rfl, cw_3, by decide, rfl, Or.inr ⟨"HopRules", nw_i 772 (by decide +kernel) rfl⟩⟩
theorem fw_X2_21 : FW RX2 21 5 0 2 true := ⟨RX2, TX2, 6, tyX2, rfl, cw_5, by decide, rfl, tyX2_ok, nmX2, rfl, rfl, fun _ => rfl, Or.inl (aw_i 1271 (by decide +kernel) rfl)⟩
theorem fr_X2_27 : FR RX2 27 6 2 := ⟨RX3, TX3, 6, rfl, cw_6, by decide, rfl, Or.inr ⟨"HopRules", nw_i 909 (by decide +kernel) rfl⟩⟩
theorem fr_X2_32 : FR RX2 32 8 4 := ⟨RX5, TX5, 5, rfl, cw_8, by decide, rfl, Or.inr ⟨"HopRules", nw_i 382 (by decide +kernel) rfl⟩⟩
theorem fw_X2_38 : FW RX2 38 5 2 1 true := ⟨RX2, TX2, 6, tyX2, rfl, cw_5, by decide, rfl, tyX2_ok, nmX2, rfl, rfl, fun _ => rfl, Or.inl (aw_i 1278 (by decide +kernel) rfl)⟩
theorem fr_X2_38 : FR RX2 38 5 2 := ⟨RX2, TX2, 6, rfl, cw_5, by decide, rfl, Or.inl (aw_i 1278 (by decide +kernel) rfl)⟩
theorem fw_X2_41 : FW RX2 41 5 1 2 true := ⟨RX2, TX2, 6, tyX2, rfl, cw_5, by decide, rfl, tyX2_ok, nmX2, rfl, rfl, fun _ => rfl, Or.inl (aw_i 1275 (by decide +kernel) rfl)⟩
theorem vw_X2_42 : VW RX2 42 yX3_has cX3_has 2 (some .boolean) 1 := ⟨⟨aw_i 1241 (by decide +kernel) rfl, aw_i 118 (by decide +kernel) rfl, by decide +kernel, by decide +kernel, by decide +kernel⟩, Or.inr ⟨"HopRules", nw_i 1270 (by decide +kernel) rfl⟩⟩
theorem iw_X3_has : Cond.instanceMethod yX3_has ∈ AW := aw_i 1240 (by decide +kernel) rfl
theorem sw_X3_has : Cond.selects yX3_has.cls yX3_has yX3_has ∈ AW := aw_i 30 (by decide +kernel) rfl
theorem fr_X2_46 : FR RX2 46 7 5 := ⟨RX4, TX4, 12, rfl, cw_7, by decide, rfl, Or.inr ⟨"HopRules", nw_i 1076 (by decide +kernel) rfl⟩⟩
theorem fw_X2_50 : FW RX2 50 5 3 0 true := ⟨RX2, TX2, 6, tyX2, rfl, cw_5, by decide, rfl, tyX2_ok, nmX2, rfl, rfl, fun _ => rfl, Or.inl (aw_i 1280 (by decide +kernel) rfl)⟩
theorem fr_X2_51 : FR RX2 51 6 5 := ⟨RX3, TX3, 6, rfl, cw_6, by decide, rfl, Or.inr ⟨"HopRules", nw_i 916 (by decide +kernel) rfl⟩⟩
theorem fw_X2_54 : FW RX2 54 5 4 0 true := ⟨RX2, TX2, 6, tyX2, rfl, cw_5, by decide, rfl, tyX2_ok, nmX2, rfl, rfl, fun _ => rfl, Or.inl (aw_i 1283 (by decide +kernel) rfl)⟩
theorem fr_X2_21 : FR RX2 21 5 0 := ⟨RX2, TX2, 6, rfl, cw_5, by decide, rfl, Or.inl (aw_i 1271 (by decide +kernel) rfl)⟩
theorem fr_X2_54 : FR RX2 54 5 4 := ⟨RX2, TX2, 6, rfl, cw_5, by decide, rfl, Or.inl (aw_i 1283 (by decide +kernel) rfl)⟩
theorem fr_X2_57 : FR RX2 57 6 0 := ⟨RX3, TX3, 6, rfl, cw_6, by decide, rfl, Or.inr ⟨"HopRules", nw_i 905 (by decide +kernel) rfl⟩⟩
theorem fr_X2_41 : FR RX2 41 5 1 := ⟨RX2, TX2, 6, rfl, cw_5, by decide, rfl, Or.inl (aw_i 1275 (by decide +kernel) rfl)⟩
theorem fr_X2_60 : FR RX2 60 6 3 := ⟨RX3, TX3, 6, rfl, cw_6, by decide, rfl, Or.inr ⟨"HopRules", nw_i 912 (by decide +kernel) rfl⟩⟩
theorem fr_X2_50 : FR RX2 50 5 3 := ⟨RX2, TX2, 6, rfl, cw_5, by decide, rfl, Or.inl (aw_i 1280 (by decide +kernel) rfl)⟩
theorem vw_X2_63 : VW RX2 63 yX5_siteHost cX5_siteHost 2 (some (.object "HopRules$Host")) 0 := ⟨⟨aw_i 480 (by decide +kernel) rfl, aw_i 105 (by decide +kernel) rfl, by decide +kernel, by decide +kernel, by decide +kernel⟩, Or.inr ⟨"HopRules", nw_i 1339 (by decide +kernel) rfl⟩⟩
theorem fr_X2_67 : FR RX2 67 5 5 := ⟨RX2, TX2, 6, rfl, cw_5, by decide, rfl, Or.inl (aw_i 1285 (by decide +kernel) rfl)⟩
theorem ob_X3_3 : Cond.methodLink RX3 3 Lib.objectInit ∈ AW := aw_i 903 (by decide +kernel) rfl
theorem fw_X3_9 : FW RX3 9 6 0 0 true := ⟨RX3, TX3, 6, tyX3, rfl, cw_6, by decide, rfl, tyX3_ok, nmX3, rfl, rfl, fun _ => rfl, Or.inl (aw_i 904 (by decide +kernel) rfl)⟩
theorem fw_X3_15 : FW RX3 15 6 1 0 true := ⟨RX3, TX3, 6, tyX3, rfl, cw_6, by decide, rfl, tyX3_ok, nmX3, rfl, rfl, fun _ => rfl, Or.inl (aw_i 907 (by decide +kernel) rfl)⟩
theorem fw_X3_18 : FW RX3 18 6 2 2 true := ⟨RX3, TX3, 6, tyX3, rfl, cw_6, by decide, rfl, tyX3_ok, nmX3, rfl, rfl, fun _ => rfl, Or.inl (aw_i 908 (by decide +kernel) rfl)⟩
theorem fw_X3_22 : FW RX3 22 6 3 0 true := ⟨RX3, TX3, 6, tyX3, rfl, cw_6, by decide, rfl, tyX3_ok, nmX3, rfl, rfl, fun _ => rfl, Or.inl (aw_i 911 (by decide +kernel) rfl)⟩
theorem fw_X3_25 : FW RX3 25 6 4 0 true := ⟨RX3, TX3, 6, tyX3, rfl, cw_6, by decide, rfl, tyX3_ok, nmX3, rfl, rfl, fun _ => rfl, Or.inl (aw_i 914 (by decide +kernel) rfl)⟩
theorem fw_X3_28 : FW RX3 28 6 5 0 true := ⟨RX3, TX3, 6, tyX3, rfl, cw_6, by decide, rfl, tyX3_ok, nmX3, rfl, rfl, fun _ => rfl, Or.inl (aw_i 915 (by decide +kernel) rfl)⟩
theorem fr_X3_25 : FR RX3 25 6 4 := ⟨RX3, TX3, 6, rfl, cw_6, by decide, rfl, Or.inl (aw_i 914 (by decide +kernel) rfl)⟩
theorem vw_X3_31 : VW RX3 31 yX3_has cX3_has 2 (some .boolean) 1 := ⟨⟨aw_i 1241 (by decide +kernel) rfl, aw_i 118 (by decide +kernel) rfl, by decide +kernel, by decide +kernel, by decide +kernel⟩, Or.inl (aw_i 1249 (by decide +kernel) rfl)⟩
theorem fr_X3_9 : FR RX3 9 6 0 := ⟨RX3, TX3, 6, rfl, cw_6, by decide, rfl, Or.inl (aw_i 904 (by decide +kernel) rfl)⟩
theorem fr_X3_15 : FR RX3 15 6 1 := ⟨RX3, TX3, 6, rfl, cw_6, by decide, rfl, Or.inl (aw_i 907 (by decide +kernel) rfl)⟩
theorem ob_X4_3 : Cond.methodLink RX4 3 Lib.objectInit ∈ AW := aw_i 1048 (by decide +kernel) rfl
theorem fw_X4_9 : FW RX4 9 7 0 2 true := ⟨RX4, TX4, 12, tyX4, rfl, cw_7, by decide, rfl, tyX4_ok, nmX4, rfl, rfl, fun _ => rfl, Or.inl (aw_i 1060 (by decide +kernel) rfl)⟩
theorem fr_X4_15 : FR RX4 15 13 5 := ⟨RX10, TX10, 8, rfl, cw_13, by decide, rfl, Or.inr ⟨"HopRules", nw_i 1006 (by decide +kernel) rfl⟩⟩
theorem fw_X4_21 : FW RX4 21 7 1 0 true := ⟨RX4, TX4, 12, tyX4, rfl, cw_7, by decide, rfl, tyX4_ok, nmX4, rfl, rfl, fun _ => rfl, Or.inl (aw_i 1064 (by decide +kernel) rfl)⟩
theorem fr_X4_22 : FR RX4 22 13 6 := ⟨RX10, TX10, 8, rfl, cw_13, by decide, rfl, Or.inr ⟨"HopRules", nw_i 1009 (by decide +kernel) rfl⟩⟩
theorem fw_X4_26 : FW RX4 26 7 2 1 true := ⟨RX4, TX4, 12, tyX4, rfl, cw_7, by decide, rfl, tyX4_ok, nmX4, rfl, rfl, fun _ => rfl, Or.inl (aw_i 1068 (by decide +kernel) rfl)⟩
theorem fr_X4_27 : FR RX4 27 13 7 := ⟨RX10, TX10, 8, rfl, cw_13, by decide, rfl, Or.inr ⟨"HopRules", nw_i 1011 (by decide +kernel) rfl⟩⟩
theorem fw_X4_30 : FW RX4 30 7 3 1 true := ⟨RX4, TX4, 12, tyX4, rfl, cw_7, by decide, rfl, tyX4_ok, nmX4, rfl, rfl, fun _ => rfl, Or.inl (aw_i 1070 (by decide +kernel) rfl)⟩
theorem fr_X4_31 : FR RX4 31 13 1 := ⟨RX10, TX10, 8, rfl, cw_13, by decide, rfl, Or.inr ⟨"HopRules", nw_i 997 (by decide +kernel) rfl⟩⟩
theorem fw_X4_34 : FW RX4 34 7 4 1 true := ⟨RX4, TX4, 12, tyX4, rfl, cw_7, by decide, rfl, tyX4_ok, nmX4, rfl, rfl, fun _ => rfl, Or.inl (aw_i 1072 (by decide +kernel) rfl)⟩
theorem fr_X4_34 : FR RX4 34 7 4 := ⟨RX4, TX4, 12, rfl, cw_7, by decide, rfl, Or.inl (aw_i 1072 (by decide +kernel) rfl)⟩
theorem vw_X4_37 : VW RX4 37 yX0_siteCode cX0_siteCode 1 (some .int) 0 := ⟨⟨aw_i 990 (by decide +kernel) rfl, aw_i 110 (by decide +kernel) rfl, by decide +kernel, by decide +kernel, by decide +kernel⟩, Or.inr ⟨"HopRules", nw_i 1049 (by decide +kernel) rfl⟩⟩
theorem fr_X4_43 : FR RX4 43 13 0 := ⟨RX10, TX10, 8, rfl, cw_13, by decide, rfl, Or.inr ⟨"HopRules", nw_i 994 (by decide +kernel) rfl⟩⟩
theorem vw_X4_47 : VW RX4 47 yX7_top cX7_top 2 (some (.object "HopRules$Page")) 0 := ⟨⟨aw_i 1053 (by decide +kernel) rfl, aw_i 119 (by decide +kernel) rfl, by decide +kernel, by decide +kernel, by decide +kernel⟩, Or.inr ⟨"HopRules", nw_i 1050 (by decide +kernel) rfl⟩⟩
theorem iw_X7_top : Cond.instanceMethod yX7_top ∈ AW := aw_i 1052 (by decide +kernel) rfl
theorem sw_X7_top : Cond.selects yX7_top.cls yX7_top yX7_top ∈ AW := aw_i 18 (by decide +kernel) rfl
theorem fr_X4_53 : FR RX4 53 10 0 := ⟨RX7, TX7, 3, rfl, cw_10, by decide, rfl, Or.inr ⟨"HopRules", nw_i 953 (by decide +kernel) rfl⟩⟩
theorem fw_X4_54 : FW RX4 54 7 5 0 true := ⟨RX4, TX4, 12, tyX4, rfl, cw_7, by decide, rfl, tyX4_ok, nmX4, rfl, rfl, fun _ => rfl, Or.inl (aw_i 1075 (by decide +kernel) rfl)⟩
theorem vw_X4_57 : VW RX4 57 yX7_referrerTo cX7_referrerTo 3 (some .int) 1 := ⟨⟨aw_i 1057 (by decide +kernel) rfl, aw_i 119 (by decide +kernel) rfl, by decide +kernel, by decide +kernel, by decide +kernel⟩, Or.inr ⟨"HopRules", nw_i 1054 (by decide +kernel) rfl⟩⟩
theorem iw_X7_referrerTo : Cond.instanceMethod yX7_referrerTo ∈ AW := aw_i 1056 (by decide +kernel) rfl
theorem sw_X7_referrerTo : Cond.selects yX7_referrerTo.cls yX7_referrerTo yX7_referrerTo ∈ AW := aw_i 19 (by decide +kernel) rfl
theorem fw_X4_61 : FW RX4 61 7 6 0 true := ⟨RX4, TX4, 12, tyX4, rfl, cw_7, by decide, rfl, tyX4_ok, nmX4, rfl, rfl, fun _ => rfl, Or.inl (aw_i 1078 (by decide +kernel) rfl)⟩
theorem fw_X4_64 : FW RX4 64 7 7 2 true := ⟨RX4, TX4, 12, tyX4, rfl, cw_7, by decide, rfl, tyX4_ok, nmX4, rfl, rfl, fun _ => rfl, Or.inl (aw_i 1080 (by decide +kernel) rfl)⟩
theorem fr_X4_68 : FR RX4 68 7 8 := ⟨RX4, TX4, 12, rfl, cw_7, by decide, rfl, Or.inl (aw_i 1082 (by decide +kernel) rfl)⟩
theorem fr_X4_64 : FR RX4 64 7 7 := ⟨RX4, TX4, 12, rfl, cw_7, by decide, rfl, Or.inl (aw_i 1080 (by decide +kernel) rfl)⟩
theorem fr_X4_71 : FR RX4 71 5 0 := ⟨RX2, TX2, 6, rfl, cw_5, by decide, rfl, Or.inr ⟨"HopRules", nw_i 1272 (by decide +kernel) rfl⟩⟩
theorem vw_X4_77 : VW RX4 77 yX3_nameAndValue cX3_nameAndValue 1 (some .int) 0 := ⟨⟨aw_i 1257 (by decide +kernel) rfl, aw_i 118 (by decide +kernel) rfl, by decide +kernel, by decide +kernel, by decide +kernel⟩, Or.inr ⟨"HopRules", nw_i 1254 (by decide +kernel) rfl⟩⟩
theorem fw_X4_68 : FW RX4 68 7 8 0 false := ⟨RX4, TX4, 12, tyX4, rfl, cw_7, by decide, rfl, tyX4_ok, nmX4, rfl, rfl, (fun h => by cases h), Or.inl (aw_i 1082 (by decide +kernel) rfl)⟩
theorem ob_X5_3 : Cond.methodLink RX5 3 Lib.objectInit ∈ AW := aw_i 372 (by decide +kernel) rfl
theorem fw_X5_9 : FW RX5 9 8 0 0 true := ⟨RX5, TX5, 5, tyX5, rfl, cw_8, by decide, rfl, tyX5_ok, nmX5, rfl, rfl, fun _ => rfl, Or.inl (aw_i 373 (by decide +kernel) rfl)⟩
theorem fw_X5_15 : FW RX5 15 8 1 2 true := ⟨RX5, TX5, 5, tyX5, rfl, cw_8, by decide, rfl, tyX5_ok, nmX5, rfl, rfl, fun _ => rfl, Or.inl (aw_i 376 (by decide +kernel) rfl)⟩
theorem fw_X5_19 : FW RX5 19 8 2 0 true := ⟨RX5, TX5, 5, tyX5, rfl, cw_8, by decide, rfl, tyX5_ok, nmX5, rfl, rfl, fun _ => rfl, Or.inl (aw_i 378 (by decide +kernel) rfl)⟩
theorem fw_X5_22 : FW RX5 22 8 3 0 true := ⟨RX5, TX5, 5, tyX5, rfl, cw_8, by decide, rfl, tyX5_ok, nmX5, rfl, rfl, fun _ => rfl, Or.inl (aw_i 380 (by decide +kernel) rfl)⟩
theorem fr_X5_25 : FR RX5 25 8 4 := ⟨RX5, TX5, 5, rfl, cw_8, by decide, rfl, Or.inl (aw_i 383 (by decide +kernel) rfl)⟩
theorem fr_X5_15 : FR RX5 15 8 1 := ⟨RX5, TX5, 5, rfl, cw_8, by decide, rfl, Or.inl (aw_i 376 (by decide +kernel) rfl)⟩
theorem vw_X5_29 : VW RX5 29 yJ4_append_cf468 cJ4_append_cf468 2 (some (.object "java/lang/StringBuilder")) 1 := ⟨⟨aw_i 655 (by decide +kernel) rfl, aw_i 112 (by decide +kernel) rfl, by decide +kernel, by decide +kernel, by decide +kernel⟩, Or.inl (aw_i 652 (by decide +kernel) rfl)⟩
theorem fr_X5_19 : FR RX5 19 8 2 := ⟨RX5, TX5, 5, rfl, cw_8, by decide, rfl, Or.inl (aw_i 378 (by decide +kernel) rfl)⟩
theorem ob_X6_3 : Cond.methodLink RX6 3 Lib.objectInit ∈ AW := aw_i 164 (by decide +kernel) rfl
theorem nwd_X6_9 : NWd RX6 9 2 RJx4a65c 3 [.int 0, .null, .int 0] := ⟨TJx4a65c, tyJx4a65c, rfl, cw_2, tyJx4a65c_ok, aw_i 165 (by decide +kernel) rfl, aw_i 134 (by decide +kernel) rfl, aw_i 93 (by decide +kernel) rfl, fun j hj => by rcases j with _ | _ | _ | j <;> first | rfl | omega⟩
theorem vw_X6_11 : VW RX6 11 yJx4a65c_init_da8c8 cJx4a65c_init_da8c8 1 none 0 := ⟨⟨aw_i 137 (by decide +kernel) rfl, aw_i 93 (by decide +kernel) rfl, by decide +kernel, by decide +kernel, by decide +kernel⟩, Or.inl (aw_i 166 (by decide +kernel) rfl)⟩
theorem fw_X6_12 : FW RX6 12 9 0 2 true := ⟨RX6, TX6, 2, tyX6, rfl, cw_9, by decide, rfl, tyX6_ok, nmX6, rfl, rfl, fun _ => rfl, Or.inl (aw_i 167 (by decide +kernel) rfl)⟩
theorem fr_X6_12 : FR RX6 12 9 0 := ⟨RX6, TX6, 2, rfl, cw_9, by decide, rfl, Or.inl (aw_i 167 (by decide +kernel) rfl)⟩
theorem vw_X6_18 : VW RX6 18 yJx4a65c_size_8abf5 cJx4a65c_size_8abf5 1 (some .int) 0 := ⟨⟨aw_i 234 (by decide +kernel) rfl, aw_i 93 (by decide +kernel) rfl, by decide +kernel, by decide +kernel, by decide +kernel⟩, Or.inl (aw_i 1217 (by decide +kernel) rfl)⟩
theorem vw_X6_22 : VW RX6 22 yJx4a65c_get_915e3 cJx4a65c_get_915e3 2 (some (.object "java/lang/Object")) 1 := ⟨⟨aw_i 320 (by decide +kernel) rfl, aw_i 93 (by decide +kernel) rfl, by decide +kernel, by decide +kernel, by decide +kernel⟩, Or.inl (aw_i 1218 (by decide +kernel) rfl)⟩
theorem ck_X6_26 : Cond.classLink RX6 26 RX2 ∈ AW := aw_i 1219 (by decide +kernel) rfl
theorem vw_X6_28 : VW RX6 28 yX2_isGone cX2_isGone 2 (some .boolean) 1 := ⟨⟨aw_i 1372 (by decide +kernel) rfl, aw_i 124 (by decide +kernel) rfl, by decide +kernel, by decide +kernel, by decide +kernel⟩, Or.inr ⟨"HopRules", nw_i 1369 (by decide +kernel) rfl⟩⟩
theorem iw_X2_isGone : Cond.instanceMethod yX2_isGone ∈ AW := aw_i 1371 (by decide +kernel) rfl
theorem sw_X2_isGone : Cond.selects yX2_isGone.cls yX2_isGone yX2_isGone ∈ AW := aw_i 46 (by decide +kernel) rfl
theorem vw_X6_32 : VW RX6 32 yJx4a65c_remove_915e3 cJx4a65c_remove_915e3 4 (some (.object "java/lang/Object")) 1 := ⟨⟨aw_i 1171 (by decide +kernel) rfl, aw_i 93 (by decide +kernel) rfl, by decide +kernel, by decide +kernel, by decide +kernel⟩, Or.inl (aw_i 1324 (by decide +kernel) rfl)⟩
theorem fr_X6_35 : FR RX6 35 9 1 := ⟨RX6, TX6, 2, rfl, cw_9, by decide, rfl, Or.inl (aw_i 169 (by decide +kernel) rfl)⟩
theorem fw_X6_35 : FW RX6 35 9 1 0 false := ⟨RX6, TX6, 2, tyX6, rfl, cw_9, by decide, rfl, tyX6_ok, nmX6, rfl, rfl, (fun h => by cases h), Or.inl (aw_i 169 (by decide +kernel) rfl)⟩
theorem fw_X6_39 : FW RX6 39 5 5 0 false := ⟨RX2, TX2, 6, tyX2, rfl, cw_5, by decide, rfl, tyX2_ok, nmX2, rfl, rfl, (fun h => by cases h), Or.inr ⟨rfl, "HopRules", nw_i 1284 (by decide +kernel) rfl⟩⟩
theorem fr_X6_40 : FR RX6 40 5 0 := ⟨RX2, TX2, 6, rfl, cw_5, by decide, rfl, Or.inr ⟨"HopRules", nw_i 1273 (by decide +kernel) rfl⟩⟩
theorem fr_X6_44 : FR RX6 44 6 3 := ⟨RX3, TX3, 6, rfl, cw_6, by decide, rfl, Or.inr ⟨"HopRules", nw_i 913 (by decide +kernel) rfl⟩⟩
theorem vw_X6_49 : VW RX6 49 yX11_countSegments cX11_countSegments 4 (some .int) 1 := ⟨⟨aw_i 1222 (by decide +kernel) rfl, aw_i 90 (by decide +kernel) rfl, by decide +kernel, by decide +kernel, by decide +kernel⟩, Or.inr ⟨"HopRules", nw_i 1220 (by decide +kernel) rfl⟩⟩
theorem tw_X11_countSegments : Cond.static yX11_countSegments ∈ AW := aw_i 1221 (by decide +kernel) rfl
theorem vw_X6_53 : VW RX6 53 yX6_isSent cX6_isSent 5 (some .boolean) 3 := ⟨⟨aw_i 1225 (by decide +kernel) rfl, aw_i 94 (by decide +kernel) rfl, by decide +kernel, by decide +kernel, by decide +kernel⟩, Or.inl (aw_i 1223 (by decide +kernel) rfl)⟩
theorem tw_X6_isSent : Cond.static yX6_isSent ∈ AW := aw_i 1224 (by decide +kernel) rfl
theorem vw_X6_57 : VW RX6 57 yX4_noteSent cX4_noteSent 2 none 1 := ⟨⟨aw_i 1253 (by decide +kernel) rfl, aw_i 121 (by decide +kernel) rfl, by decide +kernel, by decide +kernel, by decide +kernel⟩, Or.inr ⟨"HopRules", nw_i 1250 (by decide +kernel) rfl⟩⟩
theorem iw_X4_noteSent : Cond.instanceMethod yX4_noteSent ∈ AW := aw_i 1252 (by decide +kernel) rfl
theorem sw_X4_noteSent : Cond.selects yX4_noteSent.cls yX4_noteSent yX4_noteSent ∈ AW := aw_i 32 (by decide +kernel) rfl
theorem vw_X6_63 : VW RX6 63 yX6_noteUse cX6_noteUse 2 none 1 := ⟨⟨aw_i 1261 (by decide +kernel) rfl, aw_i 94 (by decide +kernel) rfl, by decide +kernel, by decide +kernel, by decide +kernel⟩, Or.inl (aw_i 1258 (by decide +kernel) rfl)⟩
theorem iw_X6_noteUse : Cond.instanceMethod yX6_noteUse ∈ AW := aw_i 1260 (by decide +kernel) rfl
theorem sw_X6_noteUse : Cond.selects yX6_noteUse.cls yX6_noteUse yX6_noteUse ∈ AW := aw_i 34 (by decide +kernel) rfl
theorem fr_X6_66 : FR RX6 66 7 0 := ⟨RX4, TX4, 12, rfl, cw_7, by decide, rfl, Or.inr ⟨"HopRules", nw_i 1062 (by decide +kernel) rfl⟩⟩
theorem fr_X6_70 : FR RX6 70 5 1 := ⟨RX2, TX2, 6, rfl, cw_5, by decide, rfl, Or.inr ⟨"HopRules", nw_i 1276 (by decide +kernel) rfl⟩⟩
theorem fr_X6_74 : FR RX6 74 3 2 := ⟨RX0, TX0, 13, rfl, cw_3, by decide, rfl, Or.inr ⟨"HopRules", nw_i 774 (by decide +kernel) rfl⟩⟩
theorem fr_X6_77 : FR RX6 77 5 2 := ⟨RX2, TX2, 6, rfl, cw_5, by decide, rfl, Or.inr ⟨"HopRules", nw_i 1279 (by decide +kernel) rfl⟩⟩
theorem vw_X6_81 : VW RX6 81 yX5_isIn cX5_isIn 3 (some .boolean) 1 := ⟨⟨aw_i 1229 (by decide +kernel) rfl, aw_i 105 (by decide +kernel) rfl, by decide +kernel, by decide +kernel, by decide +kernel⟩, Or.inr ⟨"HopRules", nw_i 1226 (by decide +kernel) rfl⟩⟩
theorem iw_X5_isIn : Cond.instanceMethod yX5_isIn ∈ AW := aw_i 1228 (by decide +kernel) rfl
theorem sw_X5_isIn : Cond.selects yX5_isIn.cls yX5_isIn yX5_isIn ∈ AW := aw_i 28 (by decide +kernel) rfl
theorem fr_X6_87 : FR RX6 87 3 4 := ⟨RX0, TX0, 13, rfl, cw_3, by decide, rfl, Or.inr ⟨"HopRules", nw_i 779 (by decide +kernel) rfl⟩⟩
theorem vw_X6_88 : VW RX6 88 yX11_beginsWith cX11_beginsWith 4 (some .boolean) 2 := ⟨⟨aw_i 1232 (by decide +kernel) rfl, aw_i 90 (by decide +kernel) rfl, by decide +kernel, by decide +kernel, by decide +kernel⟩, Or.inr ⟨"HopRules", nw_i 1230 (by decide +kernel) rfl⟩⟩
theorem tw_X11_beginsWith : Cond.static yX11_beginsWith ∈ AW := aw_i 1231 (by decide +kernel) rfl
theorem vw_X6_92 : VW RX6 92 yX2_isSeenAt cX2_isSeenAt 2 (some .boolean) 1 := ⟨⟨aw_i 1237 (by decide +kernel) rfl, aw_i 124 (by decide +kernel) rfl, by decide +kernel, by decide +kernel, by decide +kernel⟩, Or.inr ⟨"HopRules", nw_i 1233 (by decide +kernel) rfl⟩⟩
theorem iw_X2_isSeenAt : Cond.instanceMethod yX2_isSeenAt ∈ AW := aw_i 1235 (by decide +kernel) rfl
theorem sw_X2_isSeenAt : Cond.selects yX2_isSeenAt.cls yX2_isSeenAt yX2_isSeenAt ∈ AW := aw_i 29 (by decide +kernel) rfl
theorem vw_X6_96 : VW RX6 96 yX3_has cX3_has 2 (some .boolean) 1 := ⟨⟨aw_i 1241 (by decide +kernel) rfl, aw_i 118 (by decide +kernel) rfl, by decide +kernel, by decide +kernel, by decide +kernel⟩, Or.inr ⟨"HopRules", nw_i 1238 (by decide +kernel) rfl⟩⟩
theorem fr_X6_99 : FR RX6 99 3 1 := ⟨RX0, TX0, 13, rfl, cw_3, by decide, rfl, Or.inr ⟨"HopRules", nw_i 770 (by decide +kernel) rfl⟩⟩
theorem fr_X6_102 : FR RX6 102 7 3 := ⟨RX4, TX4, 12, rfl, cw_7, by decide, rfl, Or.inr ⟨"HopRules", nw_i 1071 (by decide +kernel) rfl⟩⟩
theorem vw_X6_105 : VW RX6 105 yX6_isSentFromAfar cX6_isSentFromAfar 3 (some .boolean) 3 := ⟨⟨aw_i 1244 (by decide +kernel) rfl, aw_i 94 (by decide +kernel) rfl, by decide +kernel, by decide +kernel, by decide +kernel⟩, Or.inl (aw_i 1242 (by decide +kernel) rfl)⟩
theorem tw_X6_isSentFromAfar : Cond.static yX6_isSentFromAfar ∈ AW := aw_i 1243 (by decide +kernel) rfl
theorem fr_X6_108 : FR RX6 108 7 4 := ⟨RX4, TX4, 12, rfl, cw_7, by decide, rfl, Or.inr ⟨"HopRules", nw_i 1073 (by decide +kernel) rfl⟩⟩
theorem fr_X6_111 : FR RX6 111 5 3 := ⟨RX2, TX2, 6, rfl, cw_5, by decide, rfl, Or.inr ⟨"HopRules", nw_i 1281 (by decide +kernel) rfl⟩⟩
theorem vw_X6_114 : VW RX6 114 yX3_isLaxOrStrict cX3_isLaxOrStrict 1 (some .boolean) 0 := ⟨⟨aw_i 1248 (by decide +kernel) rfl, aw_i 118 (by decide +kernel) rfl, by decide +kernel, by decide +kernel, by decide +kernel⟩, Or.inr ⟨"HopRules", nw_i 1245 (by decide +kernel) rfl⟩⟩
theorem iw_X3_isLaxOrStrict : Cond.instanceMethod yX3_isLaxOrStrict ∈ AW := aw_i 1247 (by decide +kernel) rfl
theorem sw_X3_isLaxOrStrict : Cond.selects yX3_isLaxOrStrict.cls yX3_isLaxOrStrict yX3_isLaxOrStrict ∈ AW := aw_i 31 (by decide +kernel) rfl
theorem fr_X6_118 : FR RX6 118 7 1 := ⟨RX4, TX4, 12, rfl, cw_7, by decide, rfl, Or.inr ⟨"HopRules", nw_i 1065 (by decide +kernel) rfl⟩⟩
theorem fr_X6_121 : FR RX6 121 3 12 := ⟨RX0, TX0, 13, rfl, cw_3, by decide, rfl, Or.inr ⟨"HopRules", nw_i 792 (by decide +kernel) rfl⟩⟩
theorem nwd_X6_26 : NWd RX6 26 5 RX2 6 [.null, .null, .int 0, .int 0, .int 0, .int 0] := ⟨TX2, tyX2, rfl, cw_5, tyX2_ok, aw_i 1219 (by decide +kernel) rfl, aw_i 1236 (by decide +kernel) rfl, aw_i 124 (by decide +kernel) rfl, fun j hj => by rcases j with _ | _ | _ | _ | _ | _ | j <;> first | rfl | omega⟩
theorem vw_X6_122 : VW RX6 122 yX2_init cX2_init 5 none 3 := ⟨⟨aw_i 1268 (by decide +kernel) rfl, aw_i 124 (by decide +kernel) rfl, by decide +kernel, by decide +kernel, by decide +kernel⟩, Or.inr ⟨"HopRules", nw_i 1266 (by decide +kernel) rfl⟩⟩
theorem iw_X2_init : Cond.instanceMethod yX2_init ∈ AW := aw_i 1267 (by decide +kernel) rfl
theorem vw_X6_125 : VW RX6 125 yX6_isForOwnHost cX6_isForOwnHost 2 (some .boolean) 2 := ⟨⟨aw_i 1301 (by decide +kernel) rfl, aw_i 94 (by decide +kernel) rfl, by decide +kernel, by decide +kernel, by decide +kernel⟩, Or.inl (aw_i 1299 (by decide +kernel) rfl)⟩
theorem tw_X6_isForOwnHost : Cond.static yX6_isForOwnHost ∈ AW := aw_i 1300 (by decide +kernel) rfl
theorem vw_X6_129 : VW RX6 129 yX6_isUnsafe cX6_isUnsafe 3 (some .boolean) 2 := ⟨⟨aw_i 1304 (by decide +kernel) rfl, aw_i 94 (by decide +kernel) rfl, by decide +kernel, by decide +kernel, by decide +kernel⟩, Or.inl (aw_i 1302 (by decide +kernel) rfl)⟩
theorem tw_X6_isUnsafe : Cond.static yX6_isUnsafe ∈ AW := aw_i 1303 (by decide +kernel) rfl
theorem vw_X6_133 : VW RX6 133 yX6_isTooFar cX6_isTooFar 3 (some .boolean) 3 := ⟨⟨aw_i 1307 (by decide +kernel) rfl, aw_i 94 (by decide +kernel) rfl, by decide +kernel, by decide +kernel, by decide +kernel⟩, Or.inl (aw_i 1305 (by decide +kernel) rfl)⟩
theorem tw_X6_isTooFar : Cond.static yX6_isTooFar ∈ AW := aw_i 1306 (by decide +kernel) rfl
theorem vw_X6_137 : VW RX6 137 yX6_isUnderSecureOne cX6_isUnderSecureOne 6 (some .boolean) 2 := ⟨⟨aw_i 1311 (by decide +kernel) rfl, aw_i 94 (by decide +kernel) rfl, by decide +kernel, by decide +kernel, by decide +kernel⟩, Or.inl (aw_i 1308 (by decide +kernel) rfl)⟩
theorem iw_X6_isUnderSecureOne : Cond.instanceMethod yX6_isUnderSecureOne ∈ AW := aw_i 1310 (by decide +kernel) rfl
theorem sw_X6_isUnderSecureOne : Cond.selects yX6_isUnderSecureOne.cls yX6_isUnderSecureOne yX6_isUnderSecureOne ∈ AW := aw_i 36 (by decide +kernel) rfl
theorem vw_X6_140 : VW RX6 140 yX6_placeOfSame cX6_placeOfSame 3 (some .int) 1 := ⟨⟨aw_i 1315 (by decide +kernel) rfl, aw_i 94 (by decide +kernel) rfl, by decide +kernel, by decide +kernel, by decide +kernel⟩, Or.inl (aw_i 1312 (by decide +kernel) rfl)⟩
theorem iw_X6_placeOfSame : Cond.instanceMethod yX6_placeOfSame ∈ AW := aw_i 1314 (by decide +kernel) rfl
theorem sw_X6_placeOfSame : Cond.selects yX6_placeOfSame.cls yX6_placeOfSame yX6_placeOfSame ∈ AW := aw_i 37 (by decide +kernel) rfl
theorem fr_X6_144 : FR RX6 144 6 5 := ⟨RX3, TX3, 6, rfl, cw_6, by decide, rfl, Or.inr ⟨"HopRules", nw_i 917 (by decide +kernel) rfl⟩⟩
theorem vw_X6_147 : VW RX6 147 yX6_removeAt cX6_removeAt 2 none 1 := ⟨⟨aw_i 1323 (by decide +kernel) rfl, aw_i 94 (by decide +kernel) rfl, by decide +kernel, by decide +kernel, by decide +kernel⟩, Or.inl (aw_i 1320 (by decide +kernel) rfl)⟩
theorem iw_X6_removeAt : Cond.instanceMethod yX6_removeAt ∈ AW := aw_i 1322 (by decide +kernel) rfl
theorem sw_X6_removeAt : Cond.selects yX6_removeAt.cls yX6_removeAt yX6_removeAt ∈ AW := aw_i 39 (by decide +kernel) rfl
theorem vw_X6_151 : VW RX6 151 yX6_put cX6_put 3 none 2 := ⟨⟨aw_i 1328 (by decide +kernel) rfl, aw_i 94 (by decide +kernel) rfl, by decide +kernel, by decide +kernel, by decide +kernel⟩, Or.inl (aw_i 1325 (by decide +kernel) rfl)⟩
theorem iw_X6_put : Cond.instanceMethod yX6_put ∈ AW := aw_i 1327 (by decide +kernel) rfl
theorem sw_X6_put : Cond.selects yX6_put.cls yX6_put yX6_put ∈ AW := aw_i 40 (by decide +kernel) rfl
theorem vw_X6_155 : VW RX6 155 yX6_trim cX6_trim 5 none 2 := ⟨⟨aw_i 1334 (by decide +kernel) rfl, aw_i 94 (by decide +kernel) rfl, by decide +kernel, by decide +kernel, by decide +kernel⟩, Or.inl (aw_i 1331 (by decide +kernel) rfl)⟩
theorem iw_X6_trim : Cond.instanceMethod yX6_trim ∈ AW := aw_i 1333 (by decide +kernel) rfl
theorem sw_X6_trim : Cond.selects yX6_trim.cls yX6_trim yX6_trim ∈ AW := aw_i 41 (by decide +kernel) rfl
theorem fr_X6_158 : FR RX6 158 8 4 := ⟨RX5, TX5, 5, rfl, cw_8, by decide, rfl, Or.inr ⟨"HopRules", nw_i 385 (by decide +kernel) rfl⟩⟩
theorem fr_X6_161 : FR RX6 161 6 2 := ⟨RX3, TX3, 6, rfl, cw_6, by decide, rfl, Or.inr ⟨"HopRules", nw_i 910 (by decide +kernel) rfl⟩⟩
theorem fr_X6_164 : FR RX6 164 6 0 := ⟨RX3, TX3, 6, rfl, cw_6, by decide, rfl, Or.inr ⟨"HopRules", nw_i 906 (by decide +kernel) rfl⟩⟩
theorem vw_X6_167 : VW RX6 167 yX2_isSame cX2_isSame 2 (some .boolean) 1 := ⟨⟨aw_i 1319 (by decide +kernel) rfl, aw_i 124 (by decide +kernel) rfl, by decide +kernel, by decide +kernel, by decide +kernel⟩, Or.inr ⟨"HopRules", nw_i 1316 (by decide +kernel) rfl⟩⟩
theorem iw_X2_isSame : Cond.instanceMethod yX2_isSame ∈ AW := aw_i 1318 (by decide +kernel) rfl
theorem sw_X2_isSame : Cond.selects yX2_isSame.cls yX2_isSame yX2_isSame ∈ AW := aw_i 38 (by decide +kernel) rfl
theorem vw_X6_171 : VW RX6 171 yJx4a65c_set_bcc79 cJx4a65c_set_bcc79 4 (some (.object "java/lang/Object")) 2 := ⟨⟨aw_i 1209 (by decide +kernel) rfl, aw_i 93 (by decide +kernel) rfl, by decide +kernel, by decide +kernel, by decide +kernel⟩, Or.inl (aw_i 1329 (by decide +kernel) rfl)⟩
theorem vw_X6_175 : VW RX6 175 yJx4a65c_add_9ea2d cJx4a65c_add_9ea2d 2 (some .boolean) 1 := ⟨⟨aw_i 400 (by decide +kernel) rfl, aw_i 93 (by decide +kernel) rfl, by decide +kernel, by decide +kernel, by decide +kernel⟩, Or.inl (aw_i 1330 (by decide +kernel) rfl)⟩
theorem vw_X6_179 : VW RX6 179 yX2_sharesLimitWith cX2_sharesLimitWith 2 (some .boolean) 1 := ⟨⟨aw_i 1338 (by decide +kernel) rfl, aw_i 124 (by decide +kernel) rfl, by decide +kernel, by decide +kernel, by decide +kernel⟩, Or.inr ⟨"HopRules", nw_i 1335 (by decide +kernel) rfl⟩⟩
theorem iw_X2_sharesLimitWith : Cond.instanceMethod yX2_sharesLimitWith ∈ AW := aw_i 1337 (by decide +kernel) rfl
theorem sw_X2_sharesLimitWith : Cond.selects yX2_sharesLimitWith.cls yX2_sharesLimitWith yX2_sharesLimitWith ∈ AW := aw_i 42 (by decide +kernel) rfl
theorem vw_X6_182 : VW RX6 182 yX6_placeToGo cX6_placeToGo 7 (some .int) 1 := ⟨⟨aw_i 1343 (by decide +kernel) rfl, aw_i 94 (by decide +kernel) rfl, by decide +kernel, by decide +kernel, by decide +kernel⟩, Or.inl (aw_i 1340 (by decide +kernel) rfl)⟩
theorem iw_X6_placeToGo : Cond.instanceMethod yX6_placeToGo ∈ AW := aw_i 1342 (by decide +kernel) rfl
theorem sw_X6_placeToGo : Cond.selects yX6_placeToGo.cls yX6_placeToGo yX6_placeToGo ∈ AW := aw_i 43 (by decide +kernel) rfl
theorem vw_X6_185 : VW RX6 185 yX2_goesBefore cX2_goesBefore 3 (some .boolean) 1 := ⟨⟨aw_i 1347 (by decide +kernel) rfl, aw_i 124 (by decide +kernel) rfl, by decide +kernel, by decide +kernel, by decide +kernel⟩, Or.inr ⟨"HopRules", nw_i 1344 (by decide +kernel) rfl⟩⟩
theorem iw_X2_goesBefore : Cond.instanceMethod yX2_goesBefore ∈ AW := aw_i 1346 (by decide +kernel) rfl
theorem sw_X2_goesBefore : Cond.selects yX2_goesBefore.cls yX2_goesBefore yX2_goesBefore ∈ AW := aw_i 44 (by decide +kernel) rfl
theorem ob_X7_3 : Cond.methodLink RX7 3 Lib.objectInit ∈ AW := aw_i 950 (by decide +kernel) rfl
theorem fw_X7_9 : FW RX7 9 10 0 2 true := ⟨RX7, TX7, 3, tyX7, rfl, cw_10, by decide, rfl, tyX7_ok, nmX7, rfl, rfl, fun _ => rfl, Or.inl (aw_i 951 (by decide +kernel) rfl)⟩
theorem fw_X7_15 : FW RX7 15 10 1 2 true := ⟨RX7, TX7, 3, tyX7, rfl, cw_10, by decide, rfl, tyX7_ok, nmX7, rfl, rfl, fun _ => rfl, Or.inl (aw_i 955 (by decide +kernel) rfl)⟩
theorem fw_X7_19 : FW RX7 19 10 2 0 true := ⟨RX7, TX7, 3, tyX7, rfl, cw_10, by decide, rfl, tyX7_ok, nmX7, rfl, rfl, fun _ => rfl, Or.inl (aw_i 957 (by decide +kernel) rfl)⟩
theorem fr_X7_15 : FR RX7 15 10 1 := ⟨RX7, TX7, 3, rfl, cw_10, by decide, rfl, Or.inl (aw_i 955 (by decide +kernel) rfl)⟩
theorem fr_X7_9 : FR RX7 9 10 0 := ⟨RX7, TX7, 3, rfl, cw_10, by decide, rfl, Or.inl (aw_i 951 (by decide +kernel) rfl)⟩
theorem vw_X7_23 : VW RX7 23 yX0_siteCode cX0_siteCode 1 (some .int) 0 := ⟨⟨aw_i 990 (by decide +kernel) rfl, aw_i 110 (by decide +kernel) rfl, by decide +kernel, by decide +kernel, by decide +kernel⟩, Or.inr ⟨"HopRules", nw_i 987 (by decide +kernel) rfl⟩⟩
theorem vw_X7_29 : VW RX7 29 yX0_origin cX0_origin 2 (some .int) 0 := ⟨⟨aw_i 887 (by decide +kernel) rfl, aw_i 110 (by decide +kernel) rfl, by decide +kernel, by decide +kernel, by decide +kernel⟩, Or.inr ⟨"HopRules", nw_i 1058 (by decide +kernel) rfl⟩⟩
theorem fr_X7_19 : FR RX7 19 10 2 := ⟨RX7, TX7, 3, rfl, cw_10, by decide, rfl, Or.inl (aw_i 957 (by decide +kernel) rfl)⟩
theorem fr_X7_32 : FR RX7 32 3 1 := ⟨RX0, TX0, 13, rfl, cw_3, by decide, rfl, Or.inr ⟨"HopRules", nw_i 769 (by decide +kernel) rfl⟩⟩
theorem ob_X8_3 : Cond.methodLink RX8 3 Lib.objectInit ∈ AW := aw_i 180 (by decide +kernel) rfl
theorem nwd_X8_9 : NWd RX8 9 2 RJx4a65c 3 [.int 0, .null, .int 0] := ⟨TJx4a65c, tyJx4a65c, rfl, cw_2, tyJx4a65c_ok, aw_i 181 (by decide +kernel) rfl, aw_i 134 (by decide +kernel) rfl, aw_i 93 (by decide +kernel) rfl, fun j hj => by rcases j with _ | _ | _ | j <;> first | rfl | omega⟩
theorem vw_X8_11 : VW RX8 11 yJx4a65c_init_da8c8 cJx4a65c_init_da8c8 1 none 0 := ⟨⟨aw_i 137 (by decide +kernel) rfl, aw_i 93 (by decide +kernel) rfl, by decide +kernel, by decide +kernel, by decide +kernel⟩, Or.inl (aw_i 182 (by decide +kernel) rfl)⟩
theorem fw_X8_12 : FW RX8 12 11 0 2 true := ⟨RX8, TX8, 2, tyX8, rfl, cw_11, by decide, rfl, tyX8_ok, nmX8, rfl, rfl, fun _ => rfl, Or.inl (aw_i 183 (by decide +kernel) rfl)⟩
theorem vw_X8_18 : VW RX8 18 yX0_origin cX0_origin 2 (some .int) 0 := ⟨⟨aw_i 887 (by decide +kernel) rfl, aw_i 110 (by decide +kernel) rfl, by decide +kernel, by decide +kernel, by decide +kernel⟩, Or.inr ⟨"HopRules", nw_i 1160 (by decide +kernel) rfl⟩⟩
theorem vw_X8_24 : VW RX8 24 yX8_placeOf cX8_placeOf 6 (some .int) 3 := ⟨⟨aw_i 1164 (by decide +kernel) rfl, aw_i 95 (by decide +kernel) rfl, by decide +kernel, by decide +kernel, by decide +kernel⟩, Or.inl (aw_i 1161 (by decide +kernel) rfl)⟩
theorem iw_X8_placeOf : Cond.instanceMethod yX8_placeOf ∈ AW := aw_i 1163 (by decide +kernel) rfl
theorem sw_X8_placeOf : Cond.selects yX8_placeOf.cls yX8_placeOf yX8_placeOf ∈ AW := aw_i 24 (by decide +kernel) rfl
theorem fr_X8_12 : FR RX8 12 11 0 := ⟨RX8, TX8, 2, rfl, cw_11, by decide, rfl, Or.inl (aw_i 183 (by decide +kernel) rfl)⟩
theorem vw_X8_28 : VW RX8 28 yJx4a65c_size_8abf5 cJx4a65c_size_8abf5 1 (some .int) 0 := ⟨⟨aw_i 234 (by decide +kernel) rfl, aw_i 93 (by decide +kernel) rfl, by decide +kernel, by decide +kernel, by decide +kernel⟩, Or.inl (aw_i 1165 (by decide +kernel) rfl)⟩
theorem vw_X8_31 : VW RX8 31 yJx4a65c_remove_915e3 cJx4a65c_remove_915e3 4 (some (.object "java/lang/Object")) 1 := ⟨⟨aw_i 1171 (by decide +kernel) rfl, aw_i 93 (by decide +kernel) rfl, by decide +kernel, by decide +kernel, by decide +kernel⟩, Or.inl (aw_i 1168 (by decide +kernel) rfl)⟩
theorem ck_X8_35 : Cond.classLink RX8 35 RX1 ∈ AW := aw_i 1167 (by decide +kernel) rfl
theorem fr_X8_37 : FR RX8 37 4 3 := ⟨RX1, TX1, 4, rfl, cw_4, by decide, rfl, Or.inr ⟨"HopRules", nw_i 1188 (by decide +kernel) rfl⟩⟩
theorem nwd_X8_35 : NWd RX8 35 4 RX1 4 [.int 0, .int 0, .int 0, .int 0] := ⟨TX1, tyX1, rfl, cw_4, tyX1_ok, aw_i 1167 (by decide +kernel) rfl, aw_i 1177 (by decide +kernel) rfl, aw_i 123 (by decide +kernel) rfl, fun j hj => by rcases j with _ | _ | _ | _ | j <;> first | rfl | omega⟩
theorem vw_X8_41 : VW RX8 41 yX1_init cX1_init 4 none 3 := ⟨⟨aw_i 1180 (by decide +kernel) rfl, aw_i 123 (by decide +kernel) rfl, by decide +kernel, by decide +kernel, by decide +kernel⟩, Or.inr ⟨"HopRules", nw_i 1178 (by decide +kernel) rfl⟩⟩
theorem iw_X1_init : Cond.instanceMethod yX1_init ∈ AW := aw_i 1179 (by decide +kernel) rfl
theorem fr_X8_44 : FR RX8 44 11 1 := ⟨RX8, TX8, 2, rfl, cw_11, by decide, rfl, Or.inl (aw_i 185 (by decide +kernel) rfl)⟩
theorem fw_X8_44 : FW RX8 44 11 1 0 false := ⟨RX8, TX8, 2, tyX8, rfl, cw_11, by decide, rfl, tyX8_ok, nmX8, rfl, rfl, (fun h => by cases h), Or.inl (aw_i 185 (by decide +kernel) rfl)⟩
theorem fw_X8_37 : FW RX8 37 4 3 0 false := ⟨RX1, TX1, 4, tyX1, rfl, cw_4, by decide, rfl, tyX1_ok, nmX1, rfl, rfl, (fun h => by cases h), Or.inr ⟨rfl, "HopRules", nw_i 1188 (by decide +kernel) rfl⟩⟩
theorem vw_X8_47 : VW RX8 47 yJx4a65c_add_9ea2d cJx4a65c_add_9ea2d 2 (some .boolean) 1 := ⟨⟨aw_i 400 (by decide +kernel) rfl, aw_i 93 (by decide +kernel) rfl, by decide +kernel, by decide +kernel, by decide +kernel⟩, Or.inl (aw_i 1198 (by decide +kernel) rfl)⟩
theorem vw_X8_51 : VW RX8 51 yJx4a65c_get_915e3 cJx4a65c_get_915e3 2 (some (.object "java/lang/Object")) 1 := ⟨⟨aw_i 320 (by decide +kernel) rfl, aw_i 93 (by decide +kernel) rfl, by decide +kernel, by decide +kernel, by decide +kernel⟩, Or.inl (aw_i 1166 (by decide +kernel) rfl)⟩
theorem fr_X8_54 : FR RX8 54 4 0 := ⟨RX1, TX1, 4, rfl, cw_4, by decide, rfl, Or.inr ⟨"HopRules", nw_i 1183 (by decide +kernel) rfl⟩⟩
theorem fr_X8_56 : FR RX8 56 4 1 := ⟨RX1, TX1, 4, rfl, cw_4, by decide, rfl, Or.inr ⟨"HopRules", nw_i 1185 (by decide +kernel) rfl⟩⟩
theorem fr_X8_60 : FR RX8 60 4 2 := ⟨RX1, TX1, 4, rfl, cw_4, by decide, rfl, Or.inr ⟨"HopRules", nw_i 1187 (by decide +kernel) rfl⟩⟩
theorem ob_X9_3 : Cond.methodLink RX9 3 Lib.objectInit ∈ AW := aw_i 1125 (by decide +kernel) rfl
theorem fr_X9_9 : FR RX9 9 7 2 := ⟨RX4, TX4, 12, rfl, cw_7, by decide, rfl, Or.inr ⟨"HopRules", nw_i 1067 (by decide +kernel) rfl⟩⟩
theorem fr_X9_15 : FR RX9 15 13 0 := ⟨RX10, TX10, 8, rfl, cw_13, by decide, rfl, Or.inr ⟨"HopRules", nw_i 993 (by decide +kernel) rfl⟩⟩
theorem fr_X9_21 : FR RX9 21 10 0 := ⟨RX7, TX7, 3, rfl, cw_10, by decide, rfl, Or.inr ⟨"HopRules", nw_i 952 (by decide +kernel) rfl⟩⟩
theorem vw_X9_27 : VW RX9 27 yX0_origin cX0_origin 2 (some .int) 0 := ⟨⟨aw_i 887 (by decide +kernel) rfl, aw_i 110 (by decide +kernel) rfl, by decide +kernel, by decide +kernel, by decide +kernel⟩, Or.inr ⟨"HopRules", nw_i 1126 (by decide +kernel) rfl⟩⟩
theorem fw_X9_33 : FW RX9 33 12 0 0 true := ⟨RX9, TX9, 6, tyX9, rfl, cw_12, by decide, rfl, tyX9_ok, nmX9, rfl, rfl, fun _ => rfl, Or.inl (aw_i 1127 (by decide +kernel) rfl)⟩
theorem fr_X9_38 : FR RX9 38 7 0 := ⟨RX4, TX4, 12, rfl, cw_7, by decide, rfl, Or.inr ⟨"HopRules", nw_i 1061 (by decide +kernel) rfl⟩⟩
theorem fw_X9_39 : FW RX9 39 12 1 2 true := ⟨RX9, TX9, 6, tyX9, rfl, cw_12, by decide, rfl, tyX9_ok, nmX9, rfl, rfl, fun _ => rfl, Or.inl (aw_i 1128 (by decide +kernel) rfl)⟩
theorem fr_X9_40 : FR RX9 40 13 2 := ⟨RX10, TX10, 8, rfl, cw_13, by decide, rfl, Or.inr ⟨"HopRules", nw_i 1000 (by decide +kernel) rfl⟩⟩
theorem fw_X9_43 : FW RX9 43 12 2 1 true := ⟨RX9, TX9, 6, tyX9, rfl, cw_12, by decide, rfl, tyX9_ok, nmX9, rfl, rfl, fun _ => rfl, Or.inl (aw_i 1129 (by decide +kernel) rfl)⟩
theorem fr_X9_46 : FR RX9 46 7 5 := ⟨RX4, TX4, 12, rfl, cw_7, by decide, rfl, Or.inr ⟨"HopRules", nw_i 1074 (by decide +kernel) rfl⟩⟩
theorem fw_X9_49 : FW RX9 49 12 3 0 true := ⟨RX9, TX9, 6, tyX9, rfl, cw_12, by decide, rfl, tyX9_ok, nmX9, rfl, rfl, fun _ => rfl, Or.inl (aw_i 1130 (by decide +kernel) rfl)⟩
theorem fr_X9_50 : FR RX9 50 3 10 := ⟨RX0, TX0, 13, rfl, cw_3, by decide, rfl, Or.inr ⟨"HopRules", nw_i 788 (by decide +kernel) rfl⟩⟩
theorem fw_X9_53 : FW RX9 53 12 4 0 true := ⟨RX9, TX9, 6, tyX9, rfl, cw_12, by decide, rfl, tyX9_ok, nmX9, rfl, rfl, fun _ => rfl, Or.inl (aw_i 1131 (by decide +kernel) rfl)⟩
theorem fr_X9_56 : FR RX9 56 3 11 := ⟨RX0, TX0, 13, rfl, cw_3, by decide, rfl, Or.inr ⟨"HopRules", nw_i 790 (by decide +kernel) rfl⟩⟩
theorem fw_X9_59 : FW RX9 59 12 5 0 true := ⟨RX9, TX9, 6, tyX9, rfl, cw_12, by decide, rfl, tyX9_ok, nmX9, rfl, rfl, fun _ => rfl, Or.inl (aw_i 1133 (by decide +kernel) rfl)⟩
theorem fr_X9_33 : FR RX9 33 12 0 := ⟨RX9, TX9, 6, rfl, cw_12, by decide, rfl, Or.inl (aw_i 1127 (by decide +kernel) rfl)⟩
theorem fr_X9_39 : FR RX9 39 12 1 := ⟨RX9, TX9, 6, rfl, cw_12, by decide, rfl, Or.inl (aw_i 1128 (by decide +kernel) rfl)⟩
theorem fr_X9_43 : FR RX9 43 12 2 := ⟨RX9, TX9, 6, rfl, cw_12, by decide, rfl, Or.inl (aw_i 1129 (by decide +kernel) rfl)⟩
theorem fr_X9_49 : FR RX9 49 12 3 := ⟨RX9, TX9, 6, rfl, cw_12, by decide, rfl, Or.inl (aw_i 1130 (by decide +kernel) rfl)⟩
theorem ob_X10_3 : Cond.methodLink RX10 3 Lib.objectInit ∈ AW := aw_i 980 (by decide +kernel) rfl
theorem fw_X10_9 : FW RX10 9 13 0 2 true := ⟨RX10, TX10, 8, tyX10, rfl, cw_13, by decide, rfl, tyX10_ok, nmX10, rfl, rfl, fun _ => rfl, Or.inl (aw_i 992 (by decide +kernel) rfl)⟩
theorem fw_X10_15 : FW RX10 15 13 1 0 true := ⟨RX10, TX10, 8, tyX10, rfl, cw_13, by decide, rfl, tyX10_ok, nmX10, rfl, rfl, fun _ => rfl, Or.inl (aw_i 996 (by decide +kernel) rfl)⟩
theorem fw_X10_19 : FW RX10 19 13 2 0 true := ⟨RX10, TX10, 8, tyX10, rfl, cw_13, by decide, rfl, tyX10_ok, nmX10, rfl, rfl, fun _ => rfl, Or.inl (aw_i 999 (by decide +kernel) rfl)⟩
theorem fw_X10_22 : FW RX10 22 13 3 1 true := ⟨RX10, TX10, 8, tyX10, rfl, cw_13, by decide, rfl, tyX10_ok, nmX10, rfl, rfl, fun _ => rfl, Or.inl (aw_i 1002 (by decide +kernel) rfl)⟩
theorem nwd_X10_26 : NWd RX10 26 2 RJx4a65c 3 [.int 0, .null, .int 0] := ⟨TJx4a65c, tyJx4a65c, rfl, cw_2, tyJx4a65c_ok, aw_i 981 (by decide +kernel) rfl, aw_i 134 (by decide +kernel) rfl, aw_i 93 (by decide +kernel) rfl, fun j hj => by rcases j with _ | _ | _ | j <;> first | rfl | omega⟩
theorem vw_X10_28 : VW RX10 28 yJx4a65c_init_da8c8 cJx4a65c_init_da8c8 1 none 0 := ⟨⟨aw_i 137 (by decide +kernel) rfl, aw_i 93 (by decide +kernel) rfl, by decide +kernel, by decide +kernel, by decide +kernel⟩, Or.inl (aw_i 982 (by decide +kernel) rfl)⟩
theorem fw_X10_29 : FW RX10 29 13 4 2 true := ⟨RX10, TX10, 8, tyX10, rfl, cw_13, by decide, rfl, tyX10_ok, nmX10, rfl, rfl, fun _ => rfl, Or.inl (aw_i 1004 (by decide +kernel) rfl)⟩
theorem fw_X10_33 : FW RX10 33 13 5 0 false := ⟨RX10, TX10, 8, tyX10, rfl, cw_13, by decide, rfl, tyX10_ok, nmX10, rfl, rfl, (fun h => by cases h), Or.inl (aw_i 1007 (by decide +kernel) rfl)⟩
theorem vw_X10_36 : VW RX10 36 yX7_isForeign cX7_isForeign 3 (some .boolean) 0 := ⟨⟨aw_i 986 (by decide +kernel) rfl, aw_i 119 (by decide +kernel) rfl, by decide +kernel, by decide +kernel, by decide +kernel⟩, Or.inr ⟨"HopRules", nw_i 983 (by decide +kernel) rfl⟩⟩
theorem iw_X7_isForeign : Cond.instanceMethod yX7_isForeign ∈ AW := aw_i 985 (by decide +kernel) rfl
theorem sw_X7_isForeign : Cond.selects yX7_isForeign.cls yX7_isForeign yX7_isForeign ∈ AW := aw_i 14 (by decide +kernel) rfl
theorem fw_X10_42 : FW RX10 42 13 7 1 false := ⟨RX10, TX10, 8, tyX10, rfl, cw_13, by decide, rfl, tyX10_ok, nmX10, rfl, rfl, (fun h => by cases h), Or.inl (aw_i 1012 (by decide +kernel) rfl)⟩
