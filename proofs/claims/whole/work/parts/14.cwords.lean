set_option maxRecDepth 20000 in
theorem mm_cw0 : mm_cwd 0 ∈ k2_sels lw_privs ++ (tables_1_1 ++ (tables_1_2 ++ (tables_1_3 ++ (tables_1_4 ++ (tables_1_5 ++ (tables_1_6 ++ (tables_1_7 ++ tables_1_8))))))) := List.mem_append_right _ (List.mem_append_right _ (List.mem_append_left _ (List.mem_of_getElem? (i := 117) rfl)))
set_option maxRecDepth 20000 in
theorem mm_cw1 : mm_cwd 1 ∈ k2_sels lw_privs ++ (tables_1_1 ++ (tables_1_2 ++ (tables_1_3 ++ (tables_1_4 ++ (tables_1_5 ++ (tables_1_6 ++ (tables_1_7 ++ tables_1_8))))))) := List.mem_append_right _ (List.mem_append_left _ (List.mem_of_getElem? (i := 188) rfl))
set_option maxRecDepth 20000 in
theorem mm_cw2 : mm_cwd 2 ∈ k2_sels lw_privs ++ (tables_1_1 ++ (tables_1_2 ++ (tables_1_3 ++ (tables_1_4 ++ (tables_1_5 ++ (tables_1_6 ++ (tables_1_7 ++ tables_1_8))))))) := List.mem_append_right _ (List.mem_append_right _ (List.mem_append_right _ (List.mem_append_right _ (List.mem_append_left _ (List.mem_of_getElem? (i := 15) rfl)))))
set_option maxRecDepth 20000 in
theorem mm_cw3 : mm_cwd 3 ∈ k2_sels lw_privs ++ (tables_1_1 ++ (tables_1_2 ++ (tables_1_3 ++ (tables_1_4 ++ (tables_1_5 ++ (tables_1_6 ++ (tables_1_7 ++ tables_1_8))))))) := List.mem_append_right _ (List.mem_append_right _ (List.mem_append_left _ (List.mem_of_getElem? (i := 64) rfl)))
set_option maxRecDepth 20000 in
theorem mm_cw4 : mm_cwd 4 ∈ k2_sels lw_privs ++ (tables_1_1 ++ (tables_1_2 ++ (tables_1_3 ++ (tables_1_4 ++ (tables_1_5 ++ (tables_1_6 ++ (tables_1_7 ++ tables_1_8))))))) := List.mem_append_right _ (List.mem_append_right _ (List.mem_append_left _ (List.mem_of_getElem? (i := 139) rfl)))
set_option maxRecDepth 20000 in
theorem mm_cw5 : mm_cwd 5 ∈ k2_sels lw_privs ++ (tables_1_1 ++ (tables_1_2 ++ (tables_1_3 ++ (tables_1_4 ++ (tables_1_5 ++ (tables_1_6 ++ (tables_1_7 ++ tables_1_8))))))) := List.mem_append_right _ (List.mem_append_right _ (List.mem_append_left _ (List.mem_of_getElem? (i := 228) rfl)))
set_option maxRecDepth 20000 in
theorem mm_cw6 : mm_cwd 6 ∈ k2_sels lw_privs ++ (tables_1_1 ++ (tables_1_2 ++ (tables_1_3 ++ (tables_1_4 ++ (tables_1_5 ++ (tables_1_6 ++ (tables_1_7 ++ tables_1_8))))))) := List.mem_append_right _ (List.mem_append_left _ (List.mem_of_getElem? (i := 222) rfl))
set_option maxRecDepth 20000 in
theorem mm_cw7 : mm_cwd 7 ∈ k2_sels lw_privs ++ (tables_1_1 ++ (tables_1_2 ++ (tables_1_3 ++ (tables_1_4 ++ (tables_1_5 ++ (tables_1_6 ++ (tables_1_7 ++ tables_1_8))))))) := List.mem_append_right _ (List.mem_append_right _ (List.mem_append_right _ (List.mem_append_right _ (List.mem_append_right _ (List.mem_append_left _ (List.mem_of_getElem? (i := 7) rfl))))))
set_option maxRecDepth 20000 in
theorem mm_cw8 : mm_cwd 8 ∈ k2_sels lw_privs ++ (tables_1_1 ++ (tables_1_2 ++ (tables_1_3 ++ (tables_1_4 ++ (tables_1_5 ++ (tables_1_6 ++ (tables_1_7 ++ tables_1_8))))))) := List.mem_append_right _ (List.mem_append_right _ (List.mem_append_right _ (List.mem_append_right _ (List.mem_append_right _ (List.mem_append_left _ (List.mem_of_getElem? (i := 13) rfl))))))
set_option maxRecDepth 20000 in
theorem mm_cw9 : mm_cwd 9 ∈ k2_sels lw_privs ++ (tables_1_1 ++ (tables_1_2 ++ (tables_1_3 ++ (tables_1_4 ++ (tables_1_5 ++ (tables_1_6 ++ (tables_1_7 ++ tables_1_8))))))) := List.mem_append_right _ (List.mem_append_right _ (List.mem_append_right _ (List.mem_append_right _ (List.mem_append_right _ (List.mem_append_left _ (List.mem_of_getElem? (i := 29) rfl))))))
set_option maxRecDepth 20000 in
theorem mm_cw10 : mm_cwd 10 ∈ k2_sels lw_privs ++ (tables_1_1 ++ (tables_1_2 ++ (tables_1_3 ++ (tables_1_4 ++ (tables_1_5 ++ (tables_1_6 ++ (tables_1_7 ++ tables_1_8))))))) := List.mem_append_right _ (List.mem_append_right _ (List.mem_append_left _ (List.mem_of_getElem? (i := 181) rfl)))
set_option maxRecDepth 20000 in
theorem mm_cw11 : mm_cwd 11 ∈ k2_sels lw_privs ++ (tables_1_1 ++ (tables_1_2 ++ (tables_1_3 ++ (tables_1_4 ++ (tables_1_5 ++ (tables_1_6 ++ (tables_1_7 ++ tables_1_8))))))) := List.mem_append_right _ (List.mem_append_right _ (List.mem_append_left _ (List.mem_of_getElem? (i := 151) rfl)))
set_option maxRecDepth 20000 in
theorem mm_cw12 : mm_cwd 12 ∈ k2_sels lw_privs ++ (tables_1_1 ++ (tables_1_2 ++ (tables_1_3 ++ (tables_1_4 ++ (tables_1_5 ++ (tables_1_6 ++ (tables_1_7 ++ tables_1_8))))))) := List.mem_append_right _ (List.mem_append_right _ (List.mem_append_left _ (List.mem_of_getElem? (i := 157) rfl)))
set_option maxRecDepth 20000 in
theorem mm_cw13 : mm_cwd 13 ∈ k2_sels lw_privs ++ (tables_1_1 ++ (tables_1_2 ++ (tables_1_3 ++ (tables_1_4 ++ (tables_1_5 ++ (tables_1_6 ++ (tables_1_7 ++ tables_1_8))))))) := List.mem_append_right _ (List.mem_append_left _ (List.mem_of_getElem? (i := 41) rfl))
set_option maxRecDepth 20000 in
theorem mm_cw14 : mm_cwd 14 ∈ k2_sels lw_privs ++ (tables_1_1 ++ (tables_1_2 ++ (tables_1_3 ++ (tables_1_4 ++ (tables_1_5 ++ (tables_1_6 ++ (tables_1_7 ++ tables_1_8))))))) := List.mem_append_right _ (List.mem_append_right _ (List.mem_append_right _ (List.mem_append_left _ (List.mem_of_getElem? (i := 82) rfl))))
set_option maxRecDepth 20000 in
theorem mm_cw15 : mm_cwd 15 ∈ k2_sels lw_privs ++ (tables_1_1 ++ (tables_1_2 ++ (tables_1_3 ++ (tables_1_4 ++ (tables_1_5 ++ (tables_1_6 ++ (tables_1_7 ++ tables_1_8))))))) := List.mem_append_right _ (List.mem_append_right _ (List.mem_append_right _ (List.mem_append_left _ (List.mem_of_getElem? (i := 170) rfl))))
set_option maxRecDepth 20000 in
theorem mm_cw16 : mm_cwd 16 ∈ k2_sels lw_privs ++ (tables_1_1 ++ (tables_1_2 ++ (tables_1_3 ++ (tables_1_4 ++ (tables_1_5 ++ (tables_1_6 ++ (tables_1_7 ++ tables_1_8))))))) := List.mem_append_right _ (List.mem_append_right _ (List.mem_append_right _ (List.mem_append_left _ (List.mem_of_getElem? (i := 182) rfl))))
set_option maxRecDepth 20000 in
theorem mm_cw17 : mm_cwd 17 ∈ k2_sels lw_privs ++ (tables_1_1 ++ (tables_1_2 ++ (tables_1_3 ++ (tables_1_4 ++ (tables_1_5 ++ (tables_1_6 ++ (tables_1_7 ++ tables_1_8))))))) := List.mem_append_right _ (List.mem_append_right _ (List.mem_append_right _ (List.mem_append_left _ (List.mem_of_getElem? (i := 238) rfl))))
set_option maxRecDepth 20000 in
theorem mm_cw18 : mm_cwd 18 ∈ k2_sels lw_privs ++ (tables_1_1 ++ (tables_1_2 ++ (tables_1_3 ++ (tables_1_4 ++ (tables_1_5 ++ (tables_1_6 ++ (tables_1_7 ++ tables_1_8))))))) := List.mem_append_right _ (List.mem_append_right _ (List.mem_append_right _ (List.mem_append_right _ (List.mem_append_left _ (List.mem_of_getElem? (i := 171) rfl)))))
set_option maxRecDepth 20000 in
theorem mm_cw19 : mm_cwd 19 ∈ k2_sels lw_privs ++ (tables_1_1 ++ (tables_1_2 ++ (tables_1_3 ++ (tables_1_4 ++ (tables_1_5 ++ (tables_1_6 ++ (tables_1_7 ++ tables_1_8))))))) := List.mem_append_right _ (List.mem_append_right _ (List.mem_append_left _ (List.mem_of_getElem? (i := 185) rfl)))
set_option maxRecDepth 20000 in
theorem mm_cw20 : mm_cwd 20 ∈ k2_sels lw_privs ++ (tables_1_1 ++ (tables_1_2 ++ (tables_1_3 ++ (tables_1_4 ++ (tables_1_5 ++ (tables_1_6 ++ (tables_1_7 ++ tables_1_8))))))) := List.mem_append_right _ (List.mem_append_right _ (List.mem_append_right _ (List.mem_append_right _ (List.mem_append_left _ (List.mem_of_getElem? (i := 163) rfl)))))
set_option maxRecDepth 20000 in
theorem mm_cw21 : mm_cwd 21 ∈ k2_sels lw_privs ++ (tables_1_1 ++ (tables_1_2 ++ (tables_1_3 ++ (tables_1_4 ++ (tables_1_5 ++ (tables_1_6 ++ (tables_1_7 ++ tables_1_8))))))) := List.mem_append_right _ (List.mem_append_right _ (List.mem_append_right _ (List.mem_append_right _ (List.mem_append_right _ (List.mem_append_left _ (List.mem_of_getElem? (i := 79) rfl))))))
set_option maxRecDepth 20000 in
theorem mm_cw22 : mm_cwd 22 ∈ k2_sels lw_privs ++ (tables_1_1 ++ (tables_1_2 ++ (tables_1_3 ++ (tables_1_4 ++ (tables_1_5 ++ (tables_1_6 ++ (tables_1_7 ++ tables_1_8))))))) := List.mem_append_right _ (List.mem_append_right _ (List.mem_append_left _ (List.mem_of_getElem? (i := 106) rfl)))
set_option maxRecDepth 20000 in
theorem mm_cw23 : mm_cwd 23 ∈ k2_sels lw_privs ++ (tables_1_1 ++ (tables_1_2 ++ (tables_1_3 ++ (tables_1_4 ++ (tables_1_5 ++ (tables_1_6 ++ (tables_1_7 ++ tables_1_8))))))) := List.mem_append_right _ (List.mem_append_right _ (List.mem_append_left _ (List.mem_of_getElem? (i := 110) rfl)))
set_option maxRecDepth 20000 in
theorem mm_cw24 : mm_cwd 24 ∈ k2_sels lw_privs ++ (tables_1_1 ++ (tables_1_2 ++ (tables_1_3 ++ (tables_1_4 ++ (tables_1_5 ++ (tables_1_6 ++ (tables_1_7 ++ tables_1_8))))))) := List.mem_append_right _ (List.mem_append_right _ (List.mem_append_left _ (List.mem_of_getElem? (i := 190) rfl)))
set_option maxRecDepth 20000 in
theorem mm_cw25 : mm_cwd 25 ∈ k2_sels lw_privs ++ (tables_1_1 ++ (tables_1_2 ++ (tables_1_3 ++ (tables_1_4 ++ (tables_1_5 ++ (tables_1_6 ++ (tables_1_7 ++ tables_1_8))))))) := List.mem_append_right _ (List.mem_append_right _ (List.mem_append_left _ (List.mem_of_getElem? (i := 216) rfl)))
set_option maxRecDepth 20000 in
theorem mm_cw26 : mm_cwd 26 ∈ k2_sels lw_privs ++ (tables_1_1 ++ (tables_1_2 ++ (tables_1_3 ++ (tables_1_4 ++ (tables_1_5 ++ (tables_1_6 ++ (tables_1_7 ++ tables_1_8))))))) := List.mem_append_right _ (List.mem_append_right _ (List.mem_append_left _ (List.mem_of_getElem? (i := 212) rfl)))
set_option maxRecDepth 20000 in
theorem mm_cw27 : mm_cwd 27 ∈ k2_sels lw_privs ++ (tables_1_1 ++ (tables_1_2 ++ (tables_1_3 ++ (tables_1_4 ++ (tables_1_5 ++ (tables_1_6 ++ (tables_1_7 ++ tables_1_8))))))) := List.mem_append_right _ (List.mem_append_right _ (List.mem_append_left _ (List.mem_of_getElem? (i := 101) rfl)))
set_option maxRecDepth 20000 in
theorem mm_cw28 : mm_cwd 28 ∈ k2_sels lw_privs ++ (tables_1_1 ++ (tables_1_2 ++ (tables_1_3 ++ (tables_1_4 ++ (tables_1_5 ++ (tables_1_6 ++ (tables_1_7 ++ tables_1_8))))))) := List.mem_append_right _ (List.mem_append_right _ (List.mem_append_left _ (List.mem_of_getElem? (i := 114) rfl)))
set_option maxRecDepth 20000 in
theorem mm_cw29 : mm_cwd 29 ∈ k2_sels lw_privs ++ (tables_1_1 ++ (tables_1_2 ++ (tables_1_3 ++ (tables_1_4 ++ (tables_1_5 ++ (tables_1_6 ++ (tables_1_7 ++ tables_1_8))))))) := List.mem_append_right _ (List.mem_append_left _ (List.mem_of_getElem? (i := 156) rfl))
set_option maxRecDepth 20000 in
theorem mm_cw30 : mm_cwd 30 ∈ k2_sels lw_privs ++ (tables_1_1 ++ (tables_1_2 ++ (tables_1_3 ++ (tables_1_4 ++ (tables_1_5 ++ (tables_1_6 ++ (tables_1_7 ++ tables_1_8))))))) := List.mem_append_right _ (List.mem_append_right _ (List.mem_append_right _ (List.mem_append_right _ (List.mem_append_left _ (List.mem_of_getElem? (i := 11) rfl)))))
set_option maxRecDepth 20000 in
theorem mm_cw31 : mm_cwd 31 ∈ k2_sels lw_privs ++ (tables_1_1 ++ (tables_1_2 ++ (tables_1_3 ++ (tables_1_4 ++ (tables_1_5 ++ (tables_1_6 ++ (tables_1_7 ++ tables_1_8))))))) := List.mem_append_right _ (List.mem_append_right _ (List.mem_append_left _ (List.mem_of_getElem? (i := 224) rfl)))
set_option maxRecDepth 20000 in
theorem mm_cw32 : mm_cwd 32 ∈ k2_sels lw_privs ++ (tables_1_1 ++ (tables_1_2 ++ (tables_1_3 ++ (tables_1_4 ++ (tables_1_5 ++ (tables_1_6 ++ (tables_1_7 ++ tables_1_8))))))) := List.mem_append_right _ (List.mem_append_right _ (List.mem_append_left _ (List.mem_of_getElem? (i := 68) rfl)))
set_option maxRecDepth 20000 in
theorem mm_cw33 : mm_cwd 33 ∈ k2_sels lw_privs ++ (tables_1_1 ++ (tables_1_2 ++ (tables_1_3 ++ (tables_1_4 ++ (tables_1_5 ++ (tables_1_6 ++ (tables_1_7 ++ tables_1_8))))))) := List.mem_append_right _ (List.mem_append_right _ (List.mem_append_left _ (List.mem_of_getElem? (i := 143) rfl)))
set_option maxRecDepth 20000 in
theorem mm_cw34 : mm_cwd 34 ∈ k2_sels lw_privs ++ (tables_1_1 ++ (tables_1_2 ++ (tables_1_3 ++ (tables_1_4 ++ (tables_1_5 ++ (tables_1_6 ++ (tables_1_7 ++ tables_1_8))))))) := List.mem_append_right _ (List.mem_append_right _ (List.mem_append_left _ (List.mem_of_getElem? (i := 97) rfl)))
set_option maxRecDepth 20000 in
theorem mm_cw35 : mm_cwd 35 ∈ k2_sels lw_privs ++ (tables_1_1 ++ (tables_1_2 ++ (tables_1_3 ++ (tables_1_4 ++ (tables_1_5 ++ (tables_1_6 ++ (tables_1_7 ++ tables_1_8))))))) := List.mem_append_right _ (List.mem_append_right _ (List.mem_append_right _ (List.mem_append_right _ (List.mem_append_left _ (List.mem_of_getElem? (i := 167) rfl)))))
set_option maxRecDepth 20000 in
theorem mm_cw36 : mm_cwd 36 ∈ k2_sels lw_privs ++ (tables_1_1 ++ (tables_1_2 ++ (tables_1_3 ++ (tables_1_4 ++ (tables_1_5 ++ (tables_1_6 ++ (tables_1_7 ++ tables_1_8))))))) := List.mem_append_right _ (List.mem_append_right _ (List.mem_append_right _ (List.mem_append_right _ (List.mem_append_left _ (List.mem_of_getElem? (i := 55) rfl)))))
set_option maxRecDepth 20000 in
theorem mm_cw37 : mm_cwd 37 ∈ k2_sels lw_privs ++ (tables_1_1 ++ (tables_1_2 ++ (tables_1_3 ++ (tables_1_4 ++ (tables_1_5 ++ (tables_1_6 ++ (tables_1_7 ++ tables_1_8))))))) := List.mem_append_right _ (List.mem_append_right _ (List.mem_append_left _ (List.mem_of_getElem? (i := 79) rfl)))
set_option maxRecDepth 20000 in
theorem mm_cw38 : mm_cwd 38 ∈ k2_sels lw_privs ++ (tables_1_1 ++ (tables_1_2 ++ (tables_1_3 ++ (tables_1_4 ++ (tables_1_5 ++ (tables_1_6 ++ (tables_1_7 ++ tables_1_8))))))) := List.mem_append_right _ (List.mem_append_right _ (List.mem_append_left _ (List.mem_of_getElem? (i := 130) rfl)))
set_option maxRecDepth 20000 in
theorem mm_cw39 : mm_cwd 39 ∈ k2_sels lw_privs ++ (tables_1_1 ++ (tables_1_2 ++ (tables_1_3 ++ (tables_1_4 ++ (tables_1_5 ++ (tables_1_6 ++ (tables_1_7 ++ tables_1_8))))))) := List.mem_append_right _ (List.mem_append_right _ (List.mem_append_left _ (List.mem_of_getElem? (i := 75) rfl)))
set_option maxRecDepth 20000 in
theorem mm_cw40 : mm_cwd 40 ∈ k2_sels lw_privs ++ (tables_1_1 ++ (tables_1_2 ++ (tables_1_3 ++ (tables_1_4 ++ (tables_1_5 ++ (tables_1_6 ++ (tables_1_7 ++ tables_1_8))))))) := List.mem_append_right _ (List.mem_append_right _ (List.mem_append_left _ (List.mem_of_getElem? (i := 93) rfl)))
set_option maxRecDepth 20000 in
theorem mm_cw41 : mm_cwd 41 ∈ k2_sels lw_privs ++ (tables_1_1 ++ (tables_1_2 ++ (tables_1_3 ++ (tables_1_4 ++ (tables_1_5 ++ (tables_1_6 ++ (tables_1_7 ++ tables_1_8))))))) := List.mem_append_right _ (List.mem_append_right _ (List.mem_append_left _ (List.mem_of_getElem? (i := 93) rfl)))
set_option maxRecDepth 20000 in
theorem mm_cw42 : mm_cwd 42 ∈ k2_sels lw_privs ++ (tables_1_1 ++ (tables_1_2 ++ (tables_1_3 ++ (tables_1_4 ++ (tables_1_5 ++ (tables_1_6 ++ (tables_1_7 ++ tables_1_8))))))) := List.mem_append_right _ (List.mem_append_right _ (List.mem_append_right _ (List.mem_append_right _ (List.mem_append_right _ (List.mem_append_left _ (List.mem_of_getElem? (i := 60) rfl))))))
set_option maxRecDepth 20000 in
theorem mm_cw43 : mm_cwd 43 ∈ k2_sels lw_privs ++ (tables_1_1 ++ (tables_1_2 ++ (tables_1_3 ++ (tables_1_4 ++ (tables_1_5 ++ (tables_1_6 ++ (tables_1_7 ++ tables_1_8))))))) := List.mem_append_right _ (List.mem_append_left _ (List.mem_of_getElem? (i := 35) rfl))
set_option maxRecDepth 20000 in
theorem mm_cw44 : mm_cwd 44 ∈ k2_sels lw_privs ++ (tables_1_1 ++ (tables_1_2 ++ (tables_1_3 ++ (tables_1_4 ++ (tables_1_5 ++ (tables_1_6 ++ (tables_1_7 ++ tables_1_8))))))) := List.mem_append_right _ (List.mem_append_right _ (List.mem_append_right _ (List.mem_append_left _ (List.mem_of_getElem? (i := 77) rfl))))
set_option maxRecDepth 20000 in
theorem mm_cw45 : mm_cwd 45 ∈ k2_sels lw_privs ++ (tables_1_1 ++ (tables_1_2 ++ (tables_1_3 ++ (tables_1_4 ++ (tables_1_5 ++ (tables_1_6 ++ (tables_1_7 ++ tables_1_8))))))) := List.mem_append_right _ (List.mem_append_right _ (List.mem_append_right _ (List.mem_append_right _ (List.mem_append_left _ (List.mem_of_getElem? (i := 7) rfl)))))
set_option maxRecDepth 20000 in
theorem mm_cw46 : mm_cwd 46 ∈ k2_sels lw_privs ++ (tables_1_1 ++ (tables_1_2 ++ (tables_1_3 ++ (tables_1_4 ++ (tables_1_5 ++ (tables_1_6 ++ (tables_1_7 ++ tables_1_8))))))) := List.mem_append_right _ (List.mem_append_right _ (List.mem_append_right _ (List.mem_append_left _ (List.mem_of_getElem? (i := 162) rfl))))
set_option maxRecDepth 20000 in
theorem mm_cw47 : mm_cwd 47 ∈ k2_sels lw_privs ++ (tables_1_1 ++ (tables_1_2 ++ (tables_1_3 ++ (tables_1_4 ++ (tables_1_5 ++ (tables_1_6 ++ (tables_1_7 ++ tables_1_8))))))) := List.mem_append_right _ (List.mem_append_right _ (List.mem_append_right _ (List.mem_append_left _ (List.mem_of_getElem? (i := 101) rfl))))
set_option maxRecDepth 20000 in
theorem mm_cw48 : mm_cwd 48 ∈ k2_sels lw_privs ++ (tables_1_1 ++ (tables_1_2 ++ (tables_1_3 ++ (tables_1_4 ++ (tables_1_5 ++ (tables_1_6 ++ (tables_1_7 ++ tables_1_8))))))) := List.mem_append_right _ (List.mem_append_right _ (List.mem_append_right _ (List.mem_append_left _ (List.mem_of_getElem? (i := 158) rfl))))
set_option maxRecDepth 20000 in
theorem mm_cw49 : mm_cwd 49 ∈ k2_sels lw_privs ++ (tables_1_1 ++ (tables_1_2 ++ (tables_1_3 ++ (tables_1_4 ++ (tables_1_5 ++ (tables_1_6 ++ (tables_1_7 ++ tables_1_8))))))) := List.mem_append_right _ (List.mem_append_right _ (List.mem_append_right _ (List.mem_append_left _ (List.mem_of_getElem? (i := 177) rfl))))
set_option maxRecDepth 20000 in
theorem mm_cw50 : mm_cwd 50 ∈ k2_sels lw_privs ++ (tables_1_1 ++ (tables_1_2 ++ (tables_1_3 ++ (tables_1_4 ++ (tables_1_5 ++ (tables_1_6 ++ (tables_1_7 ++ tables_1_8))))))) := List.mem_append_right _ (List.mem_append_right _ (List.mem_append_right _ (List.mem_append_left _ (List.mem_of_getElem? (i := 166) rfl))))
set_option maxRecDepth 20000 in
theorem mm_cw51 : mm_cwd 51 ∈ k2_sels lw_privs ++ (tables_1_1 ++ (tables_1_2 ++ (tables_1_3 ++ (tables_1_4 ++ (tables_1_5 ++ (tables_1_6 ++ (tables_1_7 ++ tables_1_8))))))) := List.mem_append_right _ (List.mem_append_right _ (List.mem_append_right _ (List.mem_append_left _ (List.mem_of_getElem? (i := 187) rfl))))
set_option maxRecDepth 20000 in
theorem mm_cw52 : mm_cwd 52 ∈ k2_sels lw_privs ++ (tables_1_1 ++ (tables_1_2 ++ (tables_1_3 ++ (tables_1_4 ++ (tables_1_5 ++ (tables_1_6 ++ (tables_1_7 ++ tables_1_8))))))) := List.mem_append_right _ (List.mem_append_right _ (List.mem_append_right _ (List.mem_append_left _ (List.mem_of_getElem? (i := 191) rfl))))
set_option maxRecDepth 20000 in
theorem mm_cw53 : mm_cwd 53 ∈ k2_sels lw_privs ++ (tables_1_1 ++ (tables_1_2 ++ (tables_1_3 ++ (tables_1_4 ++ (tables_1_5 ++ (tables_1_6 ++ (tables_1_7 ++ tables_1_8))))))) := List.mem_append_right _ (List.mem_append_right _ (List.mem_append_right _ (List.mem_append_left _ (List.mem_of_getElem? (i := 195) rfl))))
set_option maxRecDepth 20000 in
theorem mm_cw54 : mm_cwd 54 ∈ k2_sels lw_privs ++ (tables_1_1 ++ (tables_1_2 ++ (tables_1_3 ++ (tables_1_4 ++ (tables_1_5 ++ (tables_1_6 ++ (tables_1_7 ++ tables_1_8))))))) := List.mem_append_right _ (List.mem_append_right _ (List.mem_append_right _ (List.mem_append_left _ (List.mem_of_getElem? (i := 212) rfl))))
set_option maxRecDepth 20000 in
theorem mm_cw55 : mm_cwd 55 ∈ k2_sels lw_privs ++ (tables_1_1 ++ (tables_1_2 ++ (tables_1_3 ++ (tables_1_4 ++ (tables_1_5 ++ (tables_1_6 ++ (tables_1_7 ++ tables_1_8))))))) := List.mem_append_right _ (List.mem_append_right _ (List.mem_append_right _ (List.mem_append_left _ (List.mem_of_getElem? (i := 216) rfl))))
set_option maxRecDepth 20000 in
theorem mm_cw56 : mm_cwd 56 ∈ k2_sels lw_privs ++ (tables_1_1 ++ (tables_1_2 ++ (tables_1_3 ++ (tables_1_4 ++ (tables_1_5 ++ (tables_1_6 ++ (tables_1_7 ++ tables_1_8))))))) := List.mem_append_right _ (List.mem_append_right _ (List.mem_append_right _ (List.mem_append_left _ (List.mem_of_getElem? (i := 232) rfl))))
set_option maxRecDepth 20000 in
theorem mm_cw57 : mm_cwd 57 ∈ k2_sels lw_privs ++ (tables_1_1 ++ (tables_1_2 ++ (tables_1_3 ++ (tables_1_4 ++ (tables_1_5 ++ (tables_1_6 ++ (tables_1_7 ++ tables_1_8))))))) := List.mem_append_right _ (List.mem_append_right _ (List.mem_append_right _ (List.mem_append_left _ (List.mem_of_getElem? (i := 219) rfl))))
set_option maxRecDepth 20000 in
theorem mm_cw58 : mm_cwd 58 ∈ k2_sels lw_privs ++ (tables_1_1 ++ (tables_1_2 ++ (tables_1_3 ++ (tables_1_4 ++ (tables_1_5 ++ (tables_1_6 ++ (tables_1_7 ++ tables_1_8))))))) := List.mem_append_right _ (List.mem_append_right _ (List.mem_append_right _ (List.mem_append_left _ (List.mem_of_getElem? (i := 106) rfl))))
set_option maxRecDepth 20000 in
theorem mm_cw59 : mm_cwd 59 ∈ k2_sels lw_privs ++ (tables_1_1 ++ (tables_1_2 ++ (tables_1_3 ++ (tables_1_4 ++ (tables_1_5 ++ (tables_1_6 ++ (tables_1_7 ++ tables_1_8))))))) := List.mem_append_right _ (List.mem_append_right _ (List.mem_append_right _ (List.mem_append_left _ (List.mem_of_getElem? (i := 90) rfl))))
set_option maxRecDepth 20000 in
theorem mm_cw60 : mm_cwd 60 ∈ k2_sels lw_privs ++ (tables_1_1 ++ (tables_1_2 ++ (tables_1_3 ++ (tables_1_4 ++ (tables_1_5 ++ (tables_1_6 ++ (tables_1_7 ++ tables_1_8))))))) := List.mem_append_right _ (List.mem_append_right _ (List.mem_append_right _ (List.mem_append_left _ (List.mem_of_getElem? (i := 94) rfl))))
set_option maxRecDepth 20000 in
theorem mm_cw61 : mm_cwd 61 ∈ k2_sels lw_privs ++ (tables_1_1 ++ (tables_1_2 ++ (tables_1_3 ++ (tables_1_4 ++ (tables_1_5 ++ (tables_1_6 ++ (tables_1_7 ++ tables_1_8))))))) := List.mem_append_right _ (List.mem_append_right _ (List.mem_append_right _ (List.mem_append_left _ (List.mem_of_getElem? (i := 97) rfl))))
set_option maxRecDepth 20000 in
theorem mm_cw62 : mm_cwd 62 ∈ k2_sels lw_privs ++ (tables_1_1 ++ (tables_1_2 ++ (tables_1_3 ++ (tables_1_4 ++ (tables_1_5 ++ (tables_1_6 ++ (tables_1_7 ++ tables_1_8))))))) := List.mem_append_right _ (List.mem_append_left _ (List.mem_of_getElem? (i := 47) rfl))
set_option maxRecDepth 20000 in
theorem mm_cw63 : mm_cwd 63 ∈ k2_sels lw_privs ++ (tables_1_1 ++ (tables_1_2 ++ (tables_1_3 ++ (tables_1_4 ++ (tables_1_5 ++ (tables_1_6 ++ (tables_1_7 ++ tables_1_8))))))) := List.mem_append_right _ (List.mem_append_right _ (List.mem_append_right _ (List.mem_append_left _ (List.mem_of_getElem? (i := 86) rfl))))
set_option maxRecDepth 20000 in
theorem mm_cw64 : mm_cwd 64 ∈ k2_sels lw_privs ++ (tables_1_1 ++ (tables_1_2 ++ (tables_1_3 ++ (tables_1_4 ++ (tables_1_5 ++ (tables_1_6 ++ (tables_1_7 ++ tables_1_8))))))) := List.mem_append_right _ (List.mem_append_right _ (List.mem_append_right _ (List.mem_append_left _ (List.mem_of_getElem? (i := 208) rfl))))
set_option maxRecDepth 20000 in
theorem mm_cw65 : mm_cwd 65 ∈ k2_sels lw_privs ++ (tables_1_1 ++ (tables_1_2 ++ (tables_1_3 ++ (tables_1_4 ++ (tables_1_5 ++ (tables_1_6 ++ (tables_1_7 ++ tables_1_8))))))) := List.mem_append_right _ (List.mem_append_right _ (List.mem_append_right _ (List.mem_append_left _ (List.mem_of_getElem? (i := 200) rfl))))
set_option maxRecDepth 20000 in
theorem mm_cw66 : mm_cwd 66 ∈ k2_sels lw_privs ++ (tables_1_1 ++ (tables_1_2 ++ (tables_1_3 ++ (tables_1_4 ++ (tables_1_5 ++ (tables_1_6 ++ (tables_1_7 ++ tables_1_8))))))) := List.mem_append_right _ (List.mem_append_right _ (List.mem_append_right _ (List.mem_append_left _ (List.mem_of_getElem? (i := 204) rfl))))
set_option maxRecDepth 20000 in
theorem mm_cw67 : mm_cwd 67 ∈ k2_sels lw_privs ++ (tables_1_1 ++ (tables_1_2 ++ (tables_1_3 ++ (tables_1_4 ++ (tables_1_5 ++ (tables_1_6 ++ (tables_1_7 ++ tables_1_8))))))) := List.mem_append_right _ (List.mem_append_right _ (List.mem_append_right _ (List.mem_append_right _ (List.mem_append_left _ (List.mem_of_getElem? (i := 2) rfl)))))
set_option maxRecDepth 20000 in
theorem mm_cw68 : mm_cwd 68 ∈ k2_sels lw_privs ++ (tables_1_1 ++ (tables_1_2 ++ (tables_1_3 ++ (tables_1_4 ++ (tables_1_5 ++ (tables_1_6 ++ (tables_1_7 ++ tables_1_8))))))) := List.mem_append_right _ (List.mem_append_right _ (List.mem_append_left _ (List.mem_of_getElem? (i := 124) rfl)))
set_option maxRecDepth 20000 in
theorem mm_cw69 : mm_cwd 69 ∈ k2_sels lw_privs ++ (tables_1_1 ++ (tables_1_2 ++ (tables_1_3 ++ (tables_1_4 ++ (tables_1_5 ++ (tables_1_6 ++ (tables_1_7 ++ tables_1_8))))))) := List.mem_append_right _ (List.mem_append_left _ (List.mem_of_getElem? (i := 205) rfl))
set_option maxRecDepth 20000 in
theorem mm_cw70 : mm_cwd 70 ∈ k2_sels lw_privs ++ (tables_1_1 ++ (tables_1_2 ++ (tables_1_3 ++ (tables_1_4 ++ (tables_1_5 ++ (tables_1_6 ++ (tables_1_7 ++ tables_1_8))))))) := List.mem_append_right _ (List.mem_append_right _ (List.mem_append_left _ (List.mem_of_getElem? (i := 166) rfl)))
set_option maxRecDepth 20000 in
theorem mm_cw71 : mm_cwd 71 ∈ k2_sels lw_privs ++ (tables_1_1 ++ (tables_1_2 ++ (tables_1_3 ++ (tables_1_4 ++ (tables_1_5 ++ (tables_1_6 ++ (tables_1_7 ++ tables_1_8))))))) := List.mem_append_right _ (List.mem_append_right _ (List.mem_append_right _ (List.mem_append_right _ (List.mem_append_left _ (List.mem_of_getElem? (i := 235) rfl)))))
set_option maxRecDepth 20000 in
theorem mm_cw72 : mm_cwd 72 ∈ k2_sels lw_privs ++ (tables_1_1 ++ (tables_1_2 ++ (tables_1_3 ++ (tables_1_4 ++ (tables_1_5 ++ (tables_1_6 ++ (tables_1_7 ++ tables_1_8))))))) := List.mem_append_right _ (List.mem_append_right _ (List.mem_append_left _ (List.mem_of_getElem? (i := 233) rfl)))
set_option maxRecDepth 20000 in
theorem mm_cw73 : mm_cwd 73 ∈ k2_sels lw_privs ++ (tables_1_1 ++ (tables_1_2 ++ (tables_1_3 ++ (tables_1_4 ++ (tables_1_5 ++ (tables_1_6 ++ (tables_1_7 ++ tables_1_8))))))) := List.mem_append_right _ (List.mem_append_right _ (List.mem_append_right _ (List.mem_append_right _ (List.mem_append_right _ (List.mem_append_left _ (List.mem_of_getElem? (i := 17) rfl))))))
set_option maxRecDepth 20000 in
theorem mm_cw74 : mm_cwd 74 ∈ k2_sels lw_privs ++ (tables_1_1 ++ (tables_1_2 ++ (tables_1_3 ++ (tables_1_4 ++ (tables_1_5 ++ (tables_1_6 ++ (tables_1_7 ++ tables_1_8))))))) := List.mem_append_right _ (List.mem_append_left _ (List.mem_of_getElem? (i := 27) rfl))
set_option maxRecDepth 20000 in
theorem mm_cw75 : mm_cwd 75 ∈ k2_sels lw_privs ++ (tables_1_1 ++ (tables_1_2 ++ (tables_1_3 ++ (tables_1_4 ++ (tables_1_5 ++ (tables_1_6 ++ (tables_1_7 ++ tables_1_8))))))) := List.mem_append_right _ (List.mem_append_right _ (List.mem_append_left _ (List.mem_of_getElem? (i := 48) rfl)))
set_option maxRecDepth 20000 in
theorem mm_cw76 : mm_cwd 76 ∈ k2_sels lw_privs ++ (tables_1_1 ++ (tables_1_2 ++ (tables_1_3 ++ (tables_1_4 ++ (tables_1_5 ++ (tables_1_6 ++ (tables_1_7 ++ tables_1_8))))))) := List.mem_append_right _ (List.mem_append_right _ (List.mem_append_left _ (List.mem_of_getElem? (i := 52) rfl)))
set_option maxRecDepth 20000 in
theorem mm_cw77 : mm_cwd 77 ∈ k2_sels lw_privs ++ (tables_1_1 ++ (tables_1_2 ++ (tables_1_3 ++ (tables_1_4 ++ (tables_1_5 ++ (tables_1_6 ++ (tables_1_7 ++ tables_1_8))))))) := List.mem_append_right _ (List.mem_append_right _ (List.mem_append_right _ (List.mem_append_left _ (List.mem_of_getElem? (i := 6) rfl))))
set_option maxRecDepth 20000 in
theorem mm_cw78 : mm_cwd 78 ∈ k2_sels lw_privs ++ (tables_1_1 ++ (tables_1_2 ++ (tables_1_3 ++ (tables_1_4 ++ (tables_1_5 ++ (tables_1_6 ++ (tables_1_7 ++ tables_1_8))))))) := List.mem_append_right _ (List.mem_append_right _ (List.mem_append_left _ (List.mem_of_getElem? (i := 56) rfl)))
set_option maxRecDepth 20000 in
theorem mm_cw79 : mm_cwd 79 ∈ k2_sels lw_privs ++ (tables_1_1 ++ (tables_1_2 ++ (tables_1_3 ++ (tables_1_4 ++ (tables_1_5 ++ (tables_1_6 ++ (tables_1_7 ++ tables_1_8))))))) := List.mem_append_right _ (List.mem_append_right _ (List.mem_append_right _ (List.mem_append_right _ (List.mem_append_left _ (List.mem_of_getElem? (i := 23) rfl)))))
set_option maxRecDepth 20000 in
theorem mm_cw80 : mm_cwd 80 ∈ k2_sels lw_privs ++ (tables_1_1 ++ (tables_1_2 ++ (tables_1_3 ++ (tables_1_4 ++ (tables_1_5 ++ (tables_1_6 ++ (tables_1_7 ++ tables_1_8))))))) := List.mem_append_right _ (List.mem_append_right _ (List.mem_append_right _ (List.mem_append_right _ (List.mem_append_left _ (List.mem_of_getElem? (i := 46) rfl)))))
set_option maxRecDepth 20000 in
theorem mm_cw81 : mm_cwd 81 ∈ k2_sels lw_privs ++ (tables_1_1 ++ (tables_1_2 ++ (tables_1_3 ++ (tables_1_4 ++ (tables_1_5 ++ (tables_1_6 ++ (tables_1_7 ++ tables_1_8))))))) := List.mem_append_right _ (List.mem_append_right _ (List.mem_append_right _ (List.mem_append_right _ (List.mem_append_left _ (List.mem_of_getElem? (i := 64) rfl)))))
set_option maxRecDepth 20000 in
theorem mm_cw82 : mm_cwd 82 ∈ k2_sels lw_privs ++ (tables_1_1 ++ (tables_1_2 ++ (tables_1_3 ++ (tables_1_4 ++ (tables_1_5 ++ (tables_1_6 ++ (tables_1_7 ++ tables_1_8))))))) := List.mem_append_right _ (List.mem_append_right _ (List.mem_append_right _ (List.mem_append_right _ (List.mem_append_left _ (List.mem_of_getElem? (i := 86) rfl)))))
set_option maxRecDepth 20000 in
theorem mm_cw83 : mm_cwd 83 ∈ k2_sels lw_privs ++ (tables_1_1 ++ (tables_1_2 ++ (tables_1_3 ++ (tables_1_4 ++ (tables_1_5 ++ (tables_1_6 ++ (tables_1_7 ++ tables_1_8))))))) := List.mem_append_right _ (List.mem_append_right _ (List.mem_append_right _ (List.mem_append_right _ (List.mem_append_left _ (List.mem_of_getElem? (i := 93) rfl)))))
set_option maxRecDepth 20000 in
theorem mm_cw84 : mm_cwd 84 ∈ k2_sels lw_privs ++ (tables_1_1 ++ (tables_1_2 ++ (tables_1_3 ++ (tables_1_4 ++ (tables_1_5 ++ (tables_1_6 ++ (tables_1_7 ++ tables_1_8))))))) := List.mem_append_right _ (List.mem_append_right _ (List.mem_append_right _ (List.mem_append_right _ (List.mem_append_left _ (List.mem_of_getElem? (i := 105) rfl)))))
set_option maxRecDepth 20000 in
theorem mm_cw85 : mm_cwd 85 ∈ k2_sels lw_privs ++ (tables_1_1 ++ (tables_1_2 ++ (tables_1_3 ++ (tables_1_4 ++ (tables_1_5 ++ (tables_1_6 ++ (tables_1_7 ++ tables_1_8))))))) := List.mem_append_right _ (List.mem_append_right _ (List.mem_append_left _ (List.mem_of_getElem? (i := 60) rfl)))
set_option maxRecDepth 20000 in
theorem mm_cw86 : mm_cwd 86 ∈ k2_sels lw_privs ++ (tables_1_1 ++ (tables_1_2 ++ (tables_1_3 ++ (tables_1_4 ++ (tables_1_5 ++ (tables_1_6 ++ (tables_1_7 ++ tables_1_8))))))) := List.mem_append_right _ (List.mem_append_right _ (List.mem_append_right _ (List.mem_append_right _ (List.mem_append_left _ (List.mem_of_getElem? (i := 117) rfl)))))
set_option maxRecDepth 20000 in
theorem mm_cw87 : mm_cwd 87 ∈ k2_sels lw_privs ++ (tables_1_1 ++ (tables_1_2 ++ (tables_1_3 ++ (tables_1_4 ++ (tables_1_5 ++ (tables_1_6 ++ (tables_1_7 ++ tables_1_8))))))) := List.mem_append_right _ (List.mem_append_right _ (List.mem_append_right _ (List.mem_append_right _ (List.mem_append_left _ (List.mem_of_getElem? (i := 124) rfl)))))
set_option maxRecDepth 20000 in
theorem mm_cw88 : mm_cwd 88 ∈ k2_sels lw_privs ++ (tables_1_1 ++ (tables_1_2 ++ (tables_1_3 ++ (tables_1_4 ++ (tables_1_5 ++ (tables_1_6 ++ (tables_1_7 ++ tables_1_8))))))) := List.mem_append_right _ (List.mem_append_right _ (List.mem_append_left _ (List.mem_of_getElem? (i := 89) rfl)))
set_option maxRecDepth 20000 in
theorem mm_cw89 : mm_cwd 89 ∈ k2_sels lw_privs ++ (tables_1_1 ++ (tables_1_2 ++ (tables_1_3 ++ (tables_1_4 ++ (tables_1_5 ++ (tables_1_6 ++ (tables_1_7 ++ tables_1_8))))))) := List.mem_append_right _ (List.mem_append_right _ (List.mem_append_left _ (List.mem_of_getElem? (i := 135) rfl)))
set_option maxRecDepth 20000 in
theorem mm_cw90 : mm_cwd 90 ∈ k2_sels lw_privs ++ (tables_1_1 ++ (tables_1_2 ++ (tables_1_3 ++ (tables_1_4 ++ (tables_1_5 ++ (tables_1_6 ++ (tables_1_7 ++ tables_1_8))))))) := List.mem_append_right _ (List.mem_append_right _ (List.mem_append_right _ (List.mem_append_right _ (List.mem_append_left _ (List.mem_of_getElem? (i := 135) rfl)))))
set_option maxRecDepth 20000 in
theorem mm_cw91 : mm_cwd 91 ∈ k2_sels lw_privs ++ (tables_1_1 ++ (tables_1_2 ++ (tables_1_3 ++ (tables_1_4 ++ (tables_1_5 ++ (tables_1_6 ++ (tables_1_7 ++ tables_1_8))))))) := List.mem_append_right _ (List.mem_append_right _ (List.mem_append_right _ (List.mem_append_right _ (List.mem_append_left _ (List.mem_of_getElem? (i := 142) rfl)))))
set_option maxRecDepth 20000 in
theorem mm_cw92 : mm_cwd 92 ∈ k2_sels lw_privs ++ (tables_1_1 ++ (tables_1_2 ++ (tables_1_3 ++ (tables_1_4 ++ (tables_1_5 ++ (tables_1_6 ++ (tables_1_7 ++ tables_1_8))))))) := List.mem_append_right _ (List.mem_append_right _ (List.mem_append_left _ (List.mem_of_getElem? (i := 147) rfl)))
set_option maxRecDepth 20000 in
theorem mm_cw93 : mm_cwd 93 ∈ k2_sels lw_privs ++ (tables_1_1 ++ (tables_1_2 ++ (tables_1_3 ++ (tables_1_4 ++ (tables_1_5 ++ (tables_1_6 ++ (tables_1_7 ++ tables_1_8))))))) := List.mem_append_right _ (List.mem_append_right _ (List.mem_append_right _ (List.mem_append_right _ (List.mem_append_left _ (List.mem_of_getElem? (i := 159) rfl)))))
set_option maxRecDepth 20000 in
theorem mm_cw94 : mm_cwd 94 ∈ k2_sels lw_privs ++ (tables_1_1 ++ (tables_1_2 ++ (tables_1_3 ++ (tables_1_4 ++ (tables_1_5 ++ (tables_1_6 ++ (tables_1_7 ++ tables_1_8))))))) := List.mem_append_right _ (List.mem_append_right _ (List.mem_append_right _ (List.mem_append_right _ (List.mem_append_left _ (List.mem_of_getElem? (i := 178) rfl)))))
set_option maxRecDepth 20000 in
theorem mm_cw95 : mm_cwd 95 ∈ k2_sels lw_privs ++ (tables_1_1 ++ (tables_1_2 ++ (tables_1_3 ++ (tables_1_4 ++ (tables_1_5 ++ (tables_1_6 ++ (tables_1_7 ++ tables_1_8))))))) := List.mem_append_right _ (List.mem_append_right _ (List.mem_append_right _ (List.mem_append_right _ (List.mem_append_left _ (List.mem_of_getElem? (i := 186) rfl)))))
set_option maxRecDepth 20000 in
theorem mm_cw96 : mm_cwd 96 ∈ k2_sels lw_privs ++ (tables_1_1 ++ (tables_1_2 ++ (tables_1_3 ++ (tables_1_4 ++ (tables_1_5 ++ (tables_1_6 ++ (tables_1_7 ++ tables_1_8))))))) := List.mem_append_right _ (List.mem_append_right _ (List.mem_append_right _ (List.mem_append_right _ (List.mem_append_left _ (List.mem_of_getElem? (i := 193) rfl)))))
set_option maxRecDepth 20000 in
theorem mm_cw97 : mm_cwd 97 ∈ k2_sels lw_privs ++ (tables_1_1 ++ (tables_1_2 ++ (tables_1_3 ++ (tables_1_4 ++ (tables_1_5 ++ (tables_1_6 ++ (tables_1_7 ++ tables_1_8))))))) := List.mem_append_right _ (List.mem_append_right _ (List.mem_append_right _ (List.mem_append_right _ (List.mem_append_left _ (List.mem_of_getElem? (i := 201) rfl)))))
set_option maxRecDepth 20000 in
theorem mm_cw98 : mm_cwd 98 ∈ k2_sels lw_privs ++ (tables_1_1 ++ (tables_1_2 ++ (tables_1_3 ++ (tables_1_4 ++ (tables_1_5 ++ (tables_1_6 ++ (tables_1_7 ++ tables_1_8))))))) := List.mem_append_right _ (List.mem_append_right _ (List.mem_append_right _ (List.mem_append_right _ (List.mem_append_left _ (List.mem_of_getElem? (i := 222) rfl)))))
set_option maxRecDepth 20000 in
theorem mm_cw99 : mm_cwd 99 ∈ k2_sels lw_privs ++ (tables_1_1 ++ (tables_1_2 ++ (tables_1_3 ++ (tables_1_4 ++ (tables_1_5 ++ (tables_1_6 ++ (tables_1_7 ++ tables_1_8))))))) := List.mem_append_right _ (List.mem_append_right _ (List.mem_append_right _ (List.mem_append_right _ (List.mem_append_left _ (List.mem_of_getElem? (i := 231) rfl)))))
set_option maxRecDepth 20000 in
theorem mm_cw100 : mm_cwd 100 ∈ k2_sels lw_privs ++ (tables_1_1 ++ (tables_1_2 ++ (tables_1_3 ++ (tables_1_4 ++ (tables_1_5 ++ (tables_1_6 ++ (tables_1_7 ++ tables_1_8))))))) := List.mem_append_right _ (List.mem_append_right _ (List.mem_append_left _ (List.mem_of_getElem? (i := 162) rfl)))
set_option maxRecDepth 20000 in
theorem mm_cw101 : mm_cwd 101 ∈ k2_sels lw_privs ++ (tables_1_1 ++ (tables_1_2 ++ (tables_1_3 ++ (tables_1_4 ++ (tables_1_5 ++ (tables_1_6 ++ (tables_1_7 ++ tables_1_8))))))) := List.mem_append_right _ (List.mem_append_right _ (List.mem_append_right _ (List.mem_append_right _ (List.mem_append_right _ (List.mem_append_left _ (List.mem_of_getElem? (i := 2) rfl))))))
set_option maxRecDepth 20000 in
theorem mm_cw102 : mm_cwd 102 ∈ k2_sels lw_privs ++ (tables_1_1 ++ (tables_1_2 ++ (tables_1_3 ++ (tables_1_4 ++ (tables_1_5 ++ (tables_1_6 ++ (tables_1_7 ++ tables_1_8))))))) := List.mem_append_right _ (List.mem_append_right _ (List.mem_append_right _ (List.mem_append_right _ (List.mem_append_right _ (List.mem_append_left _ (List.mem_of_getElem? (i := 24) rfl))))))
set_option maxRecDepth 20000 in
theorem mm_cw103 : mm_cwd 103 ∈ k2_sels lw_privs ++ (tables_1_1 ++ (tables_1_2 ++ (tables_1_3 ++ (tables_1_4 ++ (tables_1_5 ++ (tables_1_6 ++ (tables_1_7 ++ tables_1_8))))))) := List.mem_append_right _ (List.mem_append_right _ (List.mem_append_left _ (List.mem_of_getElem? (i := 170) rfl)))
set_option maxRecDepth 20000 in
theorem mm_cw104 : mm_cwd 104 ∈ k2_sels lw_privs ++ (tables_1_1 ++ (tables_1_2 ++ (tables_1_3 ++ (tables_1_4 ++ (tables_1_5 ++ (tables_1_6 ++ (tables_1_7 ++ tables_1_8))))))) := List.mem_append_right _ (List.mem_append_right _ (List.mem_append_left _ (List.mem_of_getElem? (i := 174) rfl)))
set_option maxRecDepth 20000 in
theorem mm_cw105 : mm_cwd 105 ∈ k2_sels lw_privs ++ (tables_1_1 ++ (tables_1_2 ++ (tables_1_3 ++ (tables_1_4 ++ (tables_1_5 ++ (tables_1_6 ++ (tables_1_7 ++ tables_1_8))))))) := List.mem_append_right _ (List.mem_append_right _ (List.mem_append_right _ (List.mem_append_right _ (List.mem_append_right _ (List.mem_append_left _ (List.mem_of_getElem? (i := 36) rfl))))))
set_option maxRecDepth 20000 in
theorem mm_cw106 : mm_cwd 106 ∈ k2_sels lw_privs ++ (tables_1_1 ++ (tables_1_2 ++ (tables_1_3 ++ (tables_1_4 ++ (tables_1_5 ++ (tables_1_6 ++ (tables_1_7 ++ tables_1_8))))))) := List.mem_append_right _ (List.mem_append_right _ (List.mem_append_right _ (List.mem_append_right _ (List.mem_append_right _ (List.mem_append_left _ (List.mem_of_getElem? (i := 42) rfl))))))
set_option maxRecDepth 20000 in
theorem mm_cw107 : mm_cwd 107 ∈ k2_sels lw_privs ++ (tables_1_1 ++ (tables_1_2 ++ (tables_1_3 ++ (tables_1_4 ++ (tables_1_5 ++ (tables_1_6 ++ (tables_1_7 ++ tables_1_8))))))) := List.mem_append_right _ (List.mem_append_right _ (List.mem_append_right _ (List.mem_append_right _ (List.mem_append_right _ (List.mem_append_left _ (List.mem_of_getElem? (i := 46) rfl))))))
set_option maxRecDepth 20000 in
theorem mm_cw108 : mm_cwd 108 ∈ k2_sels lw_privs ++ (tables_1_1 ++ (tables_1_2 ++ (tables_1_3 ++ (tables_1_4 ++ (tables_1_5 ++ (tables_1_6 ++ (tables_1_7 ++ tables_1_8))))))) := List.mem_append_right _ (List.mem_append_right _ (List.mem_append_right _ (List.mem_append_right _ (List.mem_append_right _ (List.mem_append_left _ (List.mem_of_getElem? (i := 53) rfl))))))
set_option maxRecDepth 20000 in
theorem mm_cw109 : mm_cwd 109 ∈ k2_sels lw_privs ++ (tables_1_1 ++ (tables_1_2 ++ (tables_1_3 ++ (tables_1_4 ++ (tables_1_5 ++ (tables_1_6 ++ (tables_1_7 ++ tables_1_8))))))) := List.mem_append_right _ (List.mem_append_right _ (List.mem_append_right _ (List.mem_append_right _ (List.mem_append_right _ (List.mem_append_left _ (List.mem_of_getElem? (i := 68) rfl))))))
set_option maxRecDepth 20000 in
theorem mm_cw110 : mm_cwd 110 ∈ k2_sels lw_privs ++ (tables_1_1 ++ (tables_1_2 ++ (tables_1_3 ++ (tables_1_4 ++ (tables_1_5 ++ (tables_1_6 ++ (tables_1_7 ++ tables_1_8))))))) := List.mem_append_right _ (List.mem_append_right _ (List.mem_append_left _ (List.mem_of_getElem? (i := 198) rfl)))
set_option maxRecDepth 20000 in
theorem mm_cw111 : mm_cwd 111 ∈ k2_sels lw_privs ++ (tables_1_1 ++ (tables_1_2 ++ (tables_1_3 ++ (tables_1_4 ++ (tables_1_5 ++ (tables_1_6 ++ (tables_1_7 ++ tables_1_8))))))) := List.mem_append_right _ (List.mem_append_right _ (List.mem_append_right _ (List.mem_append_right _ (List.mem_append_right _ (List.mem_append_left _ (List.mem_of_getElem? (i := 75) rfl))))))
set_option maxRecDepth 20000 in
theorem mm_cw112 : mm_cwd 112 ∈ k2_sels lw_privs ++ (tables_1_1 ++ (tables_1_2 ++ (tables_1_3 ++ (tables_1_4 ++ (tables_1_5 ++ (tables_1_6 ++ (tables_1_7 ++ tables_1_8))))))) := List.mem_append_right _ (List.mem_append_right _ (List.mem_append_right _ (List.mem_append_right _ (List.mem_append_right _ (List.mem_append_left _ (List.mem_of_getElem? (i := 87) rfl))))))
set_option maxRecDepth 20000 in
theorem mm_cw113 : mm_cwd 113 ∈ k2_sels lw_privs ++ (tables_1_1 ++ (tables_1_2 ++ (tables_1_3 ++ (tables_1_4 ++ (tables_1_5 ++ (tables_1_6 ++ (tables_1_7 ++ tables_1_8))))))) := List.mem_append_right _ (List.mem_append_right _ (List.mem_append_right _ (List.mem_append_right _ (List.mem_append_right _ (List.mem_append_left _ (List.mem_of_getElem? (i := 94) rfl))))))
set_option maxRecDepth 20000 in
theorem mm_cw114 : mm_cwd 114 ∈ k2_sels lw_privs ++ (tables_1_1 ++ (tables_1_2 ++ (tables_1_3 ++ (tables_1_4 ++ (tables_1_5 ++ (tables_1_6 ++ (tables_1_7 ++ tables_1_8))))))) := List.mem_append_right _ (List.mem_append_right _ (List.mem_append_right _ (List.mem_append_right _ (List.mem_append_right _ (List.mem_append_left _ (List.mem_of_getElem? (i := 101) rfl))))))
set_option maxRecDepth 20000 in
theorem mm_cw115 : mm_cwd 115 ∈ k2_sels lw_privs ++ (tables_1_1 ++ (tables_1_2 ++ (tables_1_3 ++ (tables_1_4 ++ (tables_1_5 ++ (tables_1_6 ++ (tables_1_7 ++ tables_1_8))))))) := List.mem_append_right _ (List.mem_append_right _ (List.mem_append_right _ (List.mem_append_right _ (List.mem_append_right _ (List.mem_append_left _ (List.mem_of_getElem? (i := 108) rfl))))))
set_option maxRecDepth 20000 in
theorem mm_cw116 : mm_cwd 116 ∈ k2_sels lw_privs ++ (tables_1_1 ++ (tables_1_2 ++ (tables_1_3 ++ (tables_1_4 ++ (tables_1_5 ++ (tables_1_6 ++ (tables_1_7 ++ tables_1_8))))))) := List.mem_append_right _ (List.mem_append_right _ (List.mem_append_left _ (List.mem_of_getElem? (i := 204) rfl)))
set_option maxRecDepth 20000 in
theorem mm_cw117 : mm_cwd 117 ∈ k2_sels lw_privs ++ (tables_1_1 ++ (tables_1_2 ++ (tables_1_3 ++ (tables_1_4 ++ (tables_1_5 ++ (tables_1_6 ++ (tables_1_7 ++ tables_1_8))))))) := List.mem_append_right _ (List.mem_append_right _ (List.mem_append_left _ (List.mem_of_getElem? (i := 208) rfl)))
set_option maxRecDepth 20000 in
theorem mm_cw118 : mm_cwd 118 ∈ k2_sels lw_privs ++ (tables_1_1 ++ (tables_1_2 ++ (tables_1_3 ++ (tables_1_4 ++ (tables_1_5 ++ (tables_1_6 ++ (tables_1_7 ++ tables_1_8))))))) := List.mem_append_right _ (List.mem_append_right _ (List.mem_append_right _ (List.mem_append_right _ (List.mem_append_right _ (List.mem_append_left _ (List.mem_of_getElem? (i := 115) rfl))))))
set_option maxRecDepth 20000 in
theorem mm_cw119 : mm_cwd 119 ∈ k2_sels lw_privs ++ (tables_1_1 ++ (tables_1_2 ++ (tables_1_3 ++ (tables_1_4 ++ (tables_1_5 ++ (tables_1_6 ++ (tables_1_7 ++ tables_1_8))))))) := List.mem_append_right _ (List.mem_append_right _ (List.mem_append_right _ (List.mem_append_right _ (List.mem_append_right _ (List.mem_append_left _ (List.mem_of_getElem? (i := 122) rfl))))))
set_option maxRecDepth 20000 in
theorem mm_cw120 : mm_cwd 120 ∈ k2_sels lw_privs ++ (tables_1_1 ++ (tables_1_2 ++ (tables_1_3 ++ (tables_1_4 ++ (tables_1_5 ++ (tables_1_6 ++ (tables_1_7 ++ tables_1_8))))))) := List.mem_append_right _ (List.mem_append_right _ (List.mem_append_left _ (List.mem_of_getElem? (i := 220) rfl)))
set_option maxRecDepth 20000 in
theorem mm_cw121 : mm_cwd 121 ∈ k2_sels lw_privs ++ (tables_1_1 ++ (tables_1_2 ++ (tables_1_3 ++ (tables_1_4 ++ (tables_1_5 ++ (tables_1_6 ++ (tables_1_7 ++ tables_1_8))))))) := List.mem_append_right _ (List.mem_append_right _ (List.mem_append_left _ (List.mem_of_getElem? (i := 238) rfl)))
set_option maxRecDepth 20000 in
theorem mm_cw122 : mm_cwd 122 ∈ k2_sels lw_privs ++ (tables_1_1 ++ (tables_1_2 ++ (tables_1_3 ++ (tables_1_4 ++ (tables_1_5 ++ (tables_1_6 ++ (tables_1_7 ++ tables_1_8))))))) := List.mem_append_right _ (List.mem_append_right _ (List.mem_append_left _ (List.mem_of_getElem? (i := 82) rfl)))
set_option maxRecDepth 20000 in
theorem mm_cw123 : mm_cwd 123 ∈ k2_sels lw_privs ++ (tables_1_1 ++ (tables_1_2 ++ (tables_1_3 ++ (tables_1_4 ++ (tables_1_5 ++ (tables_1_6 ++ (tables_1_7 ++ tables_1_8))))))) := List.mem_append_right _ (List.mem_append_right _ (List.mem_append_right _ (List.mem_append_right _ (List.mem_append_left _ (List.mem_of_getElem? (i := 50) rfl)))))
set_option maxRecDepth 20000 in
theorem mm_cw124 : mm_cwd 124 ∈ k2_sels lw_privs ++ (tables_1_1 ++ (tables_1_2 ++ (tables_1_3 ++ (tables_1_4 ++ (tables_1_5 ++ (tables_1_6 ++ (tables_1_7 ++ tables_1_8))))))) := List.mem_append_right _ (List.mem_append_right _ (List.mem_append_right _ (List.mem_append_right _ (List.mem_append_left _ (List.mem_of_getElem? (i := 68) rfl)))))
set_option maxRecDepth 20000 in
theorem mm_cw125 : mm_cwd 125 ∈ k2_sels lw_privs ++ (tables_1_1 ++ (tables_1_2 ++ (tables_1_3 ++ (tables_1_4 ++ (tables_1_5 ++ (tables_1_6 ++ (tables_1_7 ++ tables_1_8))))))) := List.mem_append_right _ (List.mem_append_right _ (List.mem_append_right _ (List.mem_append_right _ (List.mem_append_left _ (List.mem_of_getElem? (i := 128) rfl)))))
set_option maxRecDepth 20000 in
theorem mm_cw126 : mm_cwd 126 ∈ k2_sels lw_privs ++ (tables_1_1 ++ (tables_1_2 ++ (tables_1_3 ++ (tables_1_4 ++ (tables_1_5 ++ (tables_1_6 ++ (tables_1_7 ++ tables_1_8))))))) := List.mem_append_right _ (List.mem_append_right _ (List.mem_append_right _ (List.mem_append_right _ (List.mem_append_left _ (List.mem_of_getElem? (i := 97) rfl)))))
set_option maxRecDepth 20000 in
theorem mm_cw127 : mm_cwd 127 ∈ k2_sels lw_privs ++ (tables_1_1 ++ (tables_1_2 ++ (tables_1_3 ++ (tables_1_4 ++ (tables_1_5 ++ (tables_1_6 ++ (tables_1_7 ++ tables_1_8))))))) := List.mem_append_right _ (List.mem_append_right _ (List.mem_append_right _ (List.mem_append_right _ (List.mem_append_left _ (List.mem_of_getElem? (i := 109) rfl)))))
set_option maxRecDepth 20000 in
theorem mm_cw128 : mm_cwd 128 ∈ k2_sels lw_privs ++ (tables_1_1 ++ (tables_1_2 ++ (tables_1_3 ++ (tables_1_4 ++ (tables_1_5 ++ (tables_1_6 ++ (tables_1_7 ++ tables_1_8))))))) := List.mem_append_right _ (List.mem_append_right _ (List.mem_append_right _ (List.mem_append_right _ (List.mem_append_left _ (List.mem_of_getElem? (i := 77) rfl)))))
set_option maxRecDepth 20000 in
theorem mm_cw129 : mm_cwd 129 ∈ k2_sels lw_privs ++ (tables_1_1 ++ (tables_1_2 ++ (tables_1_3 ++ (tables_1_4 ++ (tables_1_5 ++ (tables_1_6 ++ (tables_1_7 ++ tables_1_8))))))) := List.mem_append_right _ (List.mem_append_right _ (List.mem_append_right _ (List.mem_append_right _ (List.mem_append_left _ (List.mem_of_getElem? (i := 73) rfl)))))
set_option maxRecDepth 20000 in
theorem mm_cw130 : mm_cwd 130 ∈ k2_sels lw_privs ++ (tables_1_1 ++ (tables_1_2 ++ (tables_1_3 ++ (tables_1_4 ++ (tables_1_5 ++ (tables_1_6 ++ (tables_1_7 ++ tables_1_8))))))) := List.mem_append_right _ (List.mem_append_right _ (List.mem_append_right _ (List.mem_append_right _ (List.mem_append_left _ (List.mem_of_getElem? (i := 148) rfl)))))
set_option maxRecDepth 20000 in
theorem mm_cw131 : mm_cwd 131 ∈ k2_sels lw_privs ++ (tables_1_1 ++ (tables_1_2 ++ (tables_1_3 ++ (tables_1_4 ++ (tables_1_5 ++ (tables_1_6 ++ (tables_1_7 ++ tables_1_8))))))) := List.mem_append_right _ (List.mem_append_right _ (List.mem_append_left _ (List.mem_of_getElem? (i := 178) rfl)))
set_option maxRecDepth 20000 in
theorem mm_cw132 : mm_cwd 132 ∈ k2_sels lw_privs ++ (tables_1_1 ++ (tables_1_2 ++ (tables_1_3 ++ (tables_1_4 ++ (tables_1_5 ++ (tables_1_6 ++ (tables_1_7 ++ tables_1_8))))))) := List.mem_append_right _ (List.mem_append_right _ (List.mem_append_right _ (List.mem_append_right _ (List.mem_append_left _ (List.mem_of_getElem? (i := 152) rfl)))))
set_option maxRecDepth 20000 in
theorem mm_cw133 : mm_cwd 133 ∈ k2_sels lw_privs ++ (tables_1_1 ++ (tables_1_2 ++ (tables_1_3 ++ (tables_1_4 ++ (tables_1_5 ++ (tables_1_6 ++ (tables_1_7 ++ tables_1_8))))))) := List.mem_append_right _ (List.mem_append_right _ (List.mem_append_right _ (List.mem_append_right _ (List.mem_append_left _ (List.mem_of_getElem? (i := 209) rfl)))))
set_option maxRecDepth 20000 in
theorem mm_cw134 : mm_cwd 134 ∈ k2_sels lw_privs ++ (tables_1_1 ++ (tables_1_2 ++ (tables_1_3 ++ (tables_1_4 ++ (tables_1_5 ++ (tables_1_6 ++ (tables_1_7 ++ tables_1_8))))))) := List.mem_append_right _ (List.mem_append_right _ (List.mem_append_right _ (List.mem_append_right _ (List.mem_append_left _ (List.mem_of_getElem? (i := 205) rfl)))))
set_option maxRecDepth 20000 in
theorem mm_cw135 : mm_cwd 135 ∈ k2_sels lw_privs ++ (tables_1_1 ++ (tables_1_2 ++ (tables_1_3 ++ (tables_1_4 ++ (tables_1_5 ++ (tables_1_6 ++ (tables_1_7 ++ tables_1_8))))))) := List.mem_append_right _ (List.mem_append_right _ (List.mem_append_right _ (List.mem_append_right _ (List.mem_append_right _ (List.mem_append_left _ (List.mem_of_getElem? (i := 127) rfl))))))
set_option maxRecDepth 20000 in
theorem mm_cw136 : mm_cwd 136 ∈ k2_sels lw_privs ++ (tables_1_1 ++ (tables_1_2 ++ (tables_1_3 ++ (tables_1_4 ++ (tables_1_5 ++ (tables_1_6 ++ (tables_1_7 ++ tables_1_8))))))) := List.mem_append_right _ (List.mem_append_right _ (List.mem_append_right _ (List.mem_append_right _ (List.mem_append_right _ (List.mem_append_right _ (List.mem_append_left _ (List.mem_of_getElem? (i := 59) rfl)))))))
set_option maxRecDepth 20000 in
theorem mm_cw137 : mm_cwd 137 ∈ k2_sels lw_privs ++ (tables_1_1 ++ (tables_1_2 ++ (tables_1_3 ++ (tables_1_4 ++ (tables_1_5 ++ (tables_1_6 ++ (tables_1_7 ++ tables_1_8))))))) := List.mem_append_right _ (List.mem_append_right _ (List.mem_append_right _ (List.mem_append_right _ (List.mem_append_right _ (List.mem_append_right _ (List.mem_append_left _ (List.mem_of_getElem? (i := 75) rfl)))))))
set_option maxRecDepth 20000 in
theorem mm_cw138 : mm_cwd 138 ∈ k2_sels lw_privs ++ (tables_1_1 ++ (tables_1_2 ++ (tables_1_3 ++ (tables_1_4 ++ (tables_1_5 ++ (tables_1_6 ++ (tables_1_7 ++ tables_1_8))))))) := List.mem_append_right _ (List.mem_append_right _ (List.mem_append_right _ (List.mem_append_right _ (List.mem_append_right _ (List.mem_append_right _ (List.mem_append_left _ (List.mem_of_getElem? (i := 197) rfl)))))))
set_option maxRecDepth 20000 in
theorem mm_cw139 : mm_cwd 139 ∈ k2_sels lw_privs ++ (tables_1_1 ++ (tables_1_2 ++ (tables_1_3 ++ (tables_1_4 ++ (tables_1_5 ++ (tables_1_6 ++ (tables_1_7 ++ tables_1_8))))))) := List.mem_append_right _ (List.mem_append_right _ (List.mem_append_right _ (List.mem_append_right _ (List.mem_append_right _ (List.mem_append_right _ (List.mem_append_left _ (List.mem_of_getElem? (i := 182) rfl)))))))
set_option maxRecDepth 20000 in
theorem mm_cw140 : mm_cwd 140 ∈ k2_sels lw_privs ++ (tables_1_1 ++ (tables_1_2 ++ (tables_1_3 ++ (tables_1_4 ++ (tables_1_5 ++ (tables_1_6 ++ (tables_1_7 ++ tables_1_8))))))) := List.mem_append_right _ (List.mem_append_right _ (List.mem_append_right _ (List.mem_append_right _ (List.mem_append_right _ (List.mem_append_right _ (List.mem_append_right _ (List.mem_append_left _ (List.mem_of_getElem? (i := 183) rfl))))))))
set_option maxRecDepth 20000 in
theorem mm_cw141 : mm_cwd 141 ∈ k2_sels lw_privs ++ (tables_1_1 ++ (tables_1_2 ++ (tables_1_3 ++ (tables_1_4 ++ (tables_1_5 ++ (tables_1_6 ++ (tables_1_7 ++ tables_1_8))))))) := List.mem_append_right _ (List.mem_append_right _ (List.mem_append_right _ (List.mem_append_right _ (List.mem_append_right _ (List.mem_append_right _ (List.mem_append_left _ (List.mem_of_getElem? (i := 63) rfl)))))))
set_option maxRecDepth 20000 in
theorem mm_cw142 : mm_cwd 142 ∈ k2_sels lw_privs ++ (tables_1_1 ++ (tables_1_2 ++ (tables_1_3 ++ (tables_1_4 ++ (tables_1_5 ++ (tables_1_6 ++ (tables_1_7 ++ tables_1_8))))))) := List.mem_append_right _ (List.mem_append_right _ (List.mem_append_right _ (List.mem_append_right _ (List.mem_append_right _ (List.mem_append_right _ (List.mem_append_left _ (List.mem_of_getElem? (i := 67) rfl)))))))
set_option maxRecDepth 20000 in
theorem mm_cw143 : mm_cwd 143 ∈ k2_sels lw_privs ++ (tables_1_1 ++ (tables_1_2 ++ (tables_1_3 ++ (tables_1_4 ++ (tables_1_5 ++ (tables_1_6 ++ (tables_1_7 ++ tables_1_8))))))) := List.mem_append_right _ (List.mem_append_right _ (List.mem_append_right _ (List.mem_append_right _ (List.mem_append_right _ (List.mem_append_right _ (List.mem_append_left _ (List.mem_of_getElem? (i := 83) rfl)))))))
set_option maxRecDepth 20000 in
theorem mm_cw144 : mm_cwd 144 ∈ k2_sels lw_privs ++ (tables_1_1 ++ (tables_1_2 ++ (tables_1_3 ++ (tables_1_4 ++ (tables_1_5 ++ (tables_1_6 ++ (tables_1_7 ++ tables_1_8))))))) := List.mem_append_right _ (List.mem_append_right _ (List.mem_append_right _ (List.mem_append_right _ (List.mem_append_right _ (List.mem_append_right _ (List.mem_append_left _ (List.mem_of_getElem? (i := 86) rfl)))))))
set_option maxRecDepth 20000 in
theorem mm_cw145 : mm_cwd 145 ∈ k2_sels lw_privs ++ (tables_1_1 ++ (tables_1_2 ++ (tables_1_3 ++ (tables_1_4 ++ (tables_1_5 ++ (tables_1_6 ++ (tables_1_7 ++ tables_1_8))))))) := List.mem_append_right _ (List.mem_append_right _ (List.mem_append_right _ (List.mem_append_right _ (List.mem_append_right _ (List.mem_append_right _ (List.mem_append_left _ (List.mem_of_getElem? (i := 89) rfl)))))))
set_option maxRecDepth 20000 in
theorem mm_cw146 : mm_cwd 146 ∈ k2_sels lw_privs ++ (tables_1_1 ++ (tables_1_2 ++ (tables_1_3 ++ (tables_1_4 ++ (tables_1_5 ++ (tables_1_6 ++ (tables_1_7 ++ tables_1_8))))))) := List.mem_append_right _ (List.mem_append_right _ (List.mem_append_right _ (List.mem_append_right _ (List.mem_append_right _ (List.mem_append_right _ (List.mem_append_left _ (List.mem_of_getElem? (i := 79) rfl)))))))
set_option maxRecDepth 20000 in
theorem mm_cw147 : mm_cwd 147 ∈ k2_sels lw_privs ++ (tables_1_1 ++ (tables_1_2 ++ (tables_1_3 ++ (tables_1_4 ++ (tables_1_5 ++ (tables_1_6 ++ (tables_1_7 ++ tables_1_8))))))) := List.mem_append_right _ (List.mem_append_right _ (List.mem_append_right _ (List.mem_append_right _ (List.mem_append_right _ (List.mem_append_right _ (List.mem_append_left _ (List.mem_of_getElem? (i := 107) rfl)))))))
set_option maxRecDepth 20000 in
theorem mm_cw148 : mm_cwd 148 ∈ k2_sels lw_privs ++ (tables_1_1 ++ (tables_1_2 ++ (tables_1_3 ++ (tables_1_4 ++ (tables_1_5 ++ (tables_1_6 ++ (tables_1_7 ++ tables_1_8))))))) := List.mem_append_right _ (List.mem_append_right _ (List.mem_append_right _ (List.mem_append_right _ (List.mem_append_right _ (List.mem_append_right _ (List.mem_append_left _ (List.mem_of_getElem? (i := 104) rfl)))))))
set_option maxRecDepth 20000 in
theorem mm_cw149 : mm_cwd 149 ∈ k2_sels lw_privs ++ (tables_1_1 ++ (tables_1_2 ++ (tables_1_3 ++ (tables_1_4 ++ (tables_1_5 ++ (tables_1_6 ++ (tables_1_7 ++ tables_1_8))))))) := List.mem_append_right _ (List.mem_append_right _ (List.mem_append_right _ (List.mem_append_right _ (List.mem_append_right _ (List.mem_append_right _ (List.mem_append_left _ (List.mem_of_getElem? (i := 101) rfl)))))))
set_option maxRecDepth 20000 in
theorem mm_cw150 : mm_cwd 150 ∈ k2_sels lw_privs ++ (tables_1_1 ++ (tables_1_2 ++ (tables_1_3 ++ (tables_1_4 ++ (tables_1_5 ++ (tables_1_6 ++ (tables_1_7 ++ tables_1_8))))))) := List.mem_append_right _ (List.mem_append_right _ (List.mem_append_right _ (List.mem_append_right _ (List.mem_append_right _ (List.mem_append_right _ (List.mem_append_left _ (List.mem_of_getElem? (i := 116) rfl)))))))
set_option maxRecDepth 20000 in
theorem mm_cw151 : mm_cwd 151 ∈ k2_sels lw_privs ++ (tables_1_1 ++ (tables_1_2 ++ (tables_1_3 ++ (tables_1_4 ++ (tables_1_5 ++ (tables_1_6 ++ (tables_1_7 ++ tables_1_8))))))) := List.mem_append_right _ (List.mem_append_right _ (List.mem_append_right _ (List.mem_append_right _ (List.mem_append_right _ (List.mem_append_right _ (List.mem_append_left _ (List.mem_of_getElem? (i := 93) rfl)))))))
set_option maxRecDepth 20000 in
theorem mm_cw152 : mm_cwd 152 ∈ k2_sels lw_privs ++ (tables_1_1 ++ (tables_1_2 ++ (tables_1_3 ++ (tables_1_4 ++ (tables_1_5 ++ (tables_1_6 ++ (tables_1_7 ++ tables_1_8))))))) := List.mem_append_right _ (List.mem_append_right _ (List.mem_append_right _ (List.mem_append_right _ (List.mem_append_right _ (List.mem_append_right _ (List.mem_append_left _ (List.mem_of_getElem? (i := 140) rfl)))))))
set_option maxRecDepth 20000 in
theorem mm_cw153 : mm_cwd 153 ∈ k2_sels lw_privs ++ (tables_1_1 ++ (tables_1_2 ++ (tables_1_3 ++ (tables_1_4 ++ (tables_1_5 ++ (tables_1_6 ++ (tables_1_7 ++ tables_1_8))))))) := List.mem_append_right _ (List.mem_append_right _ (List.mem_append_right _ (List.mem_append_right _ (List.mem_append_right _ (List.mem_append_right _ (List.mem_append_left _ (List.mem_of_getElem? (i := 178) rfl)))))))
set_option maxRecDepth 20000 in
theorem mm_cw154 : mm_cwd 154 ∈ k2_sels lw_privs ++ (tables_1_1 ++ (tables_1_2 ++ (tables_1_3 ++ (tables_1_4 ++ (tables_1_5 ++ (tables_1_6 ++ (tables_1_7 ++ tables_1_8))))))) := List.mem_append_right _ (List.mem_append_right _ (List.mem_append_right _ (List.mem_append_right _ (List.mem_append_right _ (List.mem_append_right _ (List.mem_append_left _ (List.mem_of_getElem? (i := 120) rfl)))))))
set_option maxRecDepth 20000 in
theorem mm_cw155 : mm_cwd 155 ∈ k2_sels lw_privs ++ (tables_1_1 ++ (tables_1_2 ++ (tables_1_3 ++ (tables_1_4 ++ (tables_1_5 ++ (tables_1_6 ++ (tables_1_7 ++ tables_1_8))))))) := List.mem_append_right _ (List.mem_append_right _ (List.mem_append_right _ (List.mem_append_right _ (List.mem_append_right _ (List.mem_append_right _ (List.mem_append_left _ (List.mem_of_getElem? (i := 128) rfl)))))))
set_option maxRecDepth 20000 in
theorem mm_cw156 : mm_cwd 156 ∈ k2_sels lw_privs ++ (tables_1_1 ++ (tables_1_2 ++ (tables_1_3 ++ (tables_1_4 ++ (tables_1_5 ++ (tables_1_6 ++ (tables_1_7 ++ tables_1_8))))))) := List.mem_append_right _ (List.mem_append_right _ (List.mem_append_right _ (List.mem_append_right _ (List.mem_append_right _ (List.mem_append_right _ (List.mem_append_left _ (List.mem_of_getElem? (i := 156) rfl)))))))
set_option maxRecDepth 20000 in
theorem mm_cw157 : mm_cwd 157 ∈ k2_sels lw_privs ++ (tables_1_1 ++ (tables_1_2 ++ (tables_1_3 ++ (tables_1_4 ++ (tables_1_5 ++ (tables_1_6 ++ (tables_1_7 ++ tables_1_8))))))) := List.mem_append_right _ (List.mem_append_right _ (List.mem_append_right _ (List.mem_append_right _ (List.mem_append_right _ (List.mem_append_right _ (List.mem_append_left _ (List.mem_of_getElem? (i := 163) rfl)))))))
set_option maxRecDepth 20000 in
theorem mm_cw158 : mm_cwd 158 ∈ k2_sels lw_privs ++ (tables_1_1 ++ (tables_1_2 ++ (tables_1_3 ++ (tables_1_4 ++ (tables_1_5 ++ (tables_1_6 ++ (tables_1_7 ++ tables_1_8))))))) := List.mem_append_right _ (List.mem_append_right _ (List.mem_append_right _ (List.mem_append_right _ (List.mem_append_right _ (List.mem_append_right _ (List.mem_append_left _ (List.mem_of_getElem? (i := 166) rfl)))))))
set_option maxRecDepth 20000 in
theorem mm_cw159 : mm_cwd 159 ∈ k2_sels lw_privs ++ (tables_1_1 ++ (tables_1_2 ++ (tables_1_3 ++ (tables_1_4 ++ (tables_1_5 ++ (tables_1_6 ++ (tables_1_7 ++ tables_1_8))))))) := List.mem_append_right _ (List.mem_append_right _ (List.mem_append_right _ (List.mem_append_right _ (List.mem_append_right _ (List.mem_append_right _ (List.mem_append_left _ (List.mem_of_getElem? (i := 160) rfl)))))))
set_option maxRecDepth 20000 in
theorem mm_cw160 : mm_cwd 160 ∈ k2_sels lw_privs ++ (tables_1_1 ++ (tables_1_2 ++ (tables_1_3 ++ (tables_1_4 ++ (tables_1_5 ++ (tables_1_6 ++ (tables_1_7 ++ tables_1_8))))))) := List.mem_append_right _ (List.mem_append_right _ (List.mem_append_right _ (List.mem_append_right _ (List.mem_append_right _ (List.mem_append_right _ (List.mem_append_left _ (List.mem_of_getElem? (i := 148) rfl)))))))
set_option maxRecDepth 20000 in
theorem mm_cw161 : mm_cwd 161 ∈ k2_sels lw_privs ++ (tables_1_1 ++ (tables_1_2 ++ (tables_1_3 ++ (tables_1_4 ++ (tables_1_5 ++ (tables_1_6 ++ (tables_1_7 ++ tables_1_8))))))) := List.mem_append_right _ (List.mem_append_right _ (List.mem_append_right _ (List.mem_append_right _ (List.mem_append_right _ (List.mem_append_right _ (List.mem_append_left _ (List.mem_of_getElem? (i := 152) rfl)))))))
set_option maxRecDepth 20000 in
theorem mm_cw162 : mm_cwd 162 ∈ k2_sels lw_privs ++ (tables_1_1 ++ (tables_1_2 ++ (tables_1_3 ++ (tables_1_4 ++ (tables_1_5 ++ (tables_1_6 ++ (tables_1_7 ++ tables_1_8))))))) := List.mem_append_right _ (List.mem_append_right _ (List.mem_append_right _ (List.mem_append_right _ (List.mem_append_right _ (List.mem_append_right _ (List.mem_append_left _ (List.mem_of_getElem? (i := 136) rfl)))))))
set_option maxRecDepth 20000 in
theorem mm_cw163 : mm_cwd 163 ∈ k2_sels lw_privs ++ (tables_1_1 ++ (tables_1_2 ++ (tables_1_3 ++ (tables_1_4 ++ (tables_1_5 ++ (tables_1_6 ++ (tables_1_7 ++ tables_1_8))))))) := List.mem_append_right _ (List.mem_append_right _ (List.mem_append_right _ (List.mem_append_right _ (List.mem_append_right _ (List.mem_append_right _ (List.mem_append_left _ (List.mem_of_getElem? (i := 144) rfl)))))))
set_option maxRecDepth 20000 in
theorem mm_cw164 : mm_cwd 164 ∈ k2_sels lw_privs ++ (tables_1_1 ++ (tables_1_2 ++ (tables_1_3 ++ (tables_1_4 ++ (tables_1_5 ++ (tables_1_6 ++ (tables_1_7 ++ tables_1_8))))))) := List.mem_append_right _ (List.mem_append_right _ (List.mem_append_right _ (List.mem_append_right _ (List.mem_append_right _ (List.mem_append_right _ (List.mem_append_left _ (List.mem_of_getElem? (i := 170) rfl)))))))
set_option maxRecDepth 20000 in
theorem mm_cw165 : mm_cwd 165 ∈ k2_sels lw_privs ++ (tables_1_1 ++ (tables_1_2 ++ (tables_1_3 ++ (tables_1_4 ++ (tables_1_5 ++ (tables_1_6 ++ (tables_1_7 ++ tables_1_8))))))) := List.mem_append_right _ (List.mem_append_right _ (List.mem_append_right _ (List.mem_append_right _ (List.mem_append_right _ (List.mem_append_right _ (List.mem_append_left _ (List.mem_of_getElem? (i := 174) rfl)))))))
set_option maxRecDepth 20000 in
theorem mm_cw166 : mm_cwd 166 ∈ k2_sels lw_privs ++ (tables_1_1 ++ (tables_1_2 ++ (tables_1_3 ++ (tables_1_4 ++ (tables_1_5 ++ (tables_1_6 ++ (tables_1_7 ++ tables_1_8))))))) := List.mem_append_right _ (List.mem_append_right _ (List.mem_append_right _ (List.mem_append_right _ (List.mem_append_right _ (List.mem_append_right _ (List.mem_append_left _ (List.mem_of_getElem? (i := 132) rfl)))))))
set_option maxRecDepth 20000 in
theorem mm_cw167 : mm_cwd 167 ∈ k2_sels lw_privs ++ (tables_1_1 ++ (tables_1_2 ++ (tables_1_3 ++ (tables_1_4 ++ (tables_1_5 ++ (tables_1_6 ++ (tables_1_7 ++ tables_1_8))))))) := List.mem_append_right _ (List.mem_append_right _ (List.mem_append_right _ (List.mem_append_right _ (List.mem_append_right _ (List.mem_append_right _ (List.mem_append_left _ (List.mem_of_getElem? (i := 112) rfl)))))))
set_option maxRecDepth 20000 in
theorem mm_cw168 : mm_cwd 168 ∈ k2_sels lw_privs ++ (tables_1_1 ++ (tables_1_2 ++ (tables_1_3 ++ (tables_1_4 ++ (tables_1_5 ++ (tables_1_6 ++ (tables_1_7 ++ tables_1_8))))))) := List.mem_append_right _ (List.mem_append_right _ (List.mem_append_right _ (List.mem_append_right _ (List.mem_append_right _ (List.mem_append_right _ (List.mem_append_left _ (List.mem_of_getElem? (i := 124) rfl)))))))
set_option maxRecDepth 20000 in
theorem mm_cw169 : mm_cwd 169 ∈ k2_sels lw_privs ++ (tables_1_1 ++ (tables_1_2 ++ (tables_1_3 ++ (tables_1_4 ++ (tables_1_5 ++ (tables_1_6 ++ (tables_1_7 ++ tables_1_8))))))) := List.mem_append_right _ (List.mem_append_right _ (List.mem_append_right _ (List.mem_append_right _ (List.mem_append_right _ (List.mem_append_right _ (List.mem_append_left _ (List.mem_of_getElem? (i := 97) rfl)))))))
set_option maxRecDepth 20000 in
theorem mm_cw170 : mm_cwd 170 ∈ k2_sels lw_privs ++ (tables_1_1 ++ (tables_1_2 ++ (tables_1_3 ++ (tables_1_4 ++ (tables_1_5 ++ (tables_1_6 ++ (tables_1_7 ++ tables_1_8))))))) := List.mem_append_right _ (List.mem_append_right _ (List.mem_append_right _ (List.mem_append_right _ (List.mem_append_right _ (List.mem_append_right _ (List.mem_append_left _ (List.mem_of_getElem? (i := 71) rfl)))))))
set_option maxRecDepth 20000 in
theorem mm_cw171 : mm_cwd 171 ∈ k2_sels lw_privs ++ (tables_1_1 ++ (tables_1_2 ++ (tables_1_3 ++ (tables_1_4 ++ (tables_1_5 ++ (tables_1_6 ++ (tables_1_7 ++ tables_1_8))))))) := List.mem_append_right _ (List.mem_append_right _ (List.mem_append_right _ (List.mem_append_right _ (List.mem_append_right _ (List.mem_append_right _ (List.mem_append_left _ (List.mem_of_getElem? (i := 186) rfl)))))))
set_option maxRecDepth 20000 in
theorem mm_cw172 : mm_cwd 172 ∈ k2_sels lw_privs ++ (tables_1_1 ++ (tables_1_2 ++ (tables_1_3 ++ (tables_1_4 ++ (tables_1_5 ++ (tables_1_6 ++ (tables_1_7 ++ tables_1_8))))))) := List.mem_append_right _ (List.mem_append_right _ (List.mem_append_right _ (List.mem_append_right _ (List.mem_append_right _ (List.mem_append_right _ (List.mem_append_right _ (List.mem_append_left _ (List.mem_of_getElem? (i := 56) rfl))))))))
set_option maxRecDepth 20000 in
theorem mm_cw173 : mm_cwd 173 ∈ k2_sels lw_privs ++ (tables_1_1 ++ (tables_1_2 ++ (tables_1_3 ++ (tables_1_4 ++ (tables_1_5 ++ (tables_1_6 ++ (tables_1_7 ++ tables_1_8))))))) := List.mem_append_right _ (List.mem_append_right _ (List.mem_append_right _ (List.mem_append_right _ (List.mem_append_right _ (List.mem_append_right _ (List.mem_append_right _ (List.mem_append_left _ (List.mem_of_getElem? (i := 52) rfl))))))))
set_option maxRecDepth 20000 in
theorem mm_cw174 : mm_cwd 174 ∈ k2_sels lw_privs ++ (tables_1_1 ++ (tables_1_2 ++ (tables_1_3 ++ (tables_1_4 ++ (tables_1_5 ++ (tables_1_6 ++ (tables_1_7 ++ tables_1_8))))))) := List.mem_append_right _ (List.mem_append_right _ (List.mem_append_right _ (List.mem_append_right _ (List.mem_append_right _ (List.mem_append_right _ (List.mem_append_left _ (List.mem_of_getElem? (i := 190) rfl)))))))
set_option maxRecDepth 20000 in
theorem mm_cw175 : mm_cwd 175 ∈ k2_sels lw_privs ++ (tables_1_1 ++ (tables_1_2 ++ (tables_1_3 ++ (tables_1_4 ++ (tables_1_5 ++ (tables_1_6 ++ (tables_1_7 ++ tables_1_8))))))) := List.mem_append_right _ (List.mem_append_right _ (List.mem_append_right _ (List.mem_append_right _ (List.mem_append_right _ (List.mem_append_right _ (List.mem_append_right _ (List.mem_append_left _ (List.mem_of_getElem? (i := 108) rfl))))))))
set_option maxRecDepth 20000 in
theorem mm_cw176 : mm_cwd 176 ∈ k2_sels lw_privs ++ (tables_1_1 ++ (tables_1_2 ++ (tables_1_3 ++ (tables_1_4 ++ (tables_1_5 ++ (tables_1_6 ++ (tables_1_7 ++ tables_1_8))))))) := List.mem_append_right _ (List.mem_append_right _ (List.mem_append_right _ (List.mem_append_right _ (List.mem_append_right _ (List.mem_append_right _ (List.mem_append_right _ (List.mem_append_left _ (List.mem_of_getElem? (i := 16) rfl))))))))
set_option maxRecDepth 20000 in
theorem mm_cw177 : mm_cwd 177 ∈ k2_sels lw_privs ++ (tables_1_1 ++ (tables_1_2 ++ (tables_1_3 ++ (tables_1_4 ++ (tables_1_5 ++ (tables_1_6 ++ (tables_1_7 ++ tables_1_8))))))) := List.mem_append_right _ (List.mem_append_right _ (List.mem_append_right _ (List.mem_append_right _ (List.mem_append_right _ (List.mem_append_right _ (List.mem_append_right _ (List.mem_append_left _ (List.mem_of_getElem? (i := 13) rfl))))))))
set_option maxRecDepth 20000 in
theorem mm_cw178 : mm_cwd 178 ∈ k2_sels lw_privs ++ (tables_1_1 ++ (tables_1_2 ++ (tables_1_3 ++ (tables_1_4 ++ (tables_1_5 ++ (tables_1_6 ++ (tables_1_7 ++ tables_1_8))))))) := List.mem_append_right _ (List.mem_append_right _ (List.mem_append_right _ (List.mem_append_right _ (List.mem_append_right _ (List.mem_append_right _ (List.mem_append_right _ (List.mem_append_left _ (List.mem_of_getElem? (i := 9) rfl))))))))
set_option maxRecDepth 20000 in
theorem mm_cw179 : mm_cwd 179 ∈ k2_sels lw_privs ++ (tables_1_1 ++ (tables_1_2 ++ (tables_1_3 ++ (tables_1_4 ++ (tables_1_5 ++ (tables_1_6 ++ (tables_1_7 ++ tables_1_8))))))) := List.mem_append_right _ (List.mem_append_right _ (List.mem_append_right _ (List.mem_append_right _ (List.mem_append_right _ (List.mem_append_right _ (List.mem_append_right _ (List.mem_append_left _ (List.mem_of_getElem? (i := 5) rfl))))))))
set_option maxRecDepth 20000 in
theorem mm_cw180 : mm_cwd 180 ∈ k2_sels lw_privs ++ (tables_1_1 ++ (tables_1_2 ++ (tables_1_3 ++ (tables_1_4 ++ (tables_1_5 ++ (tables_1_6 ++ (tables_1_7 ++ tables_1_8))))))) := List.mem_append_right _ (List.mem_append_right _ (List.mem_append_right _ (List.mem_append_right _ (List.mem_append_right _ (List.mem_append_right _ (List.mem_append_right _ (List.mem_append_left _ (List.mem_of_getElem? (i := 1) rfl))))))))
set_option maxRecDepth 20000 in
theorem mm_cw181 : mm_cwd 181 ∈ k2_sels lw_privs ++ (tables_1_1 ++ (tables_1_2 ++ (tables_1_3 ++ (tables_1_4 ++ (tables_1_5 ++ (tables_1_6 ++ (tables_1_7 ++ tables_1_8))))))) := List.mem_append_right _ (List.mem_append_right _ (List.mem_append_right _ (List.mem_append_right _ (List.mem_append_right _ (List.mem_append_right _ (List.mem_append_right _ (List.mem_append_left _ (List.mem_of_getElem? (i := 32) rfl))))))))
set_option maxRecDepth 20000 in
theorem mm_cw182 : mm_cwd 182 ∈ k2_sels lw_privs ++ (tables_1_1 ++ (tables_1_2 ++ (tables_1_3 ++ (tables_1_4 ++ (tables_1_5 ++ (tables_1_6 ++ (tables_1_7 ++ tables_1_8))))))) := List.mem_append_right _ (List.mem_append_right _ (List.mem_append_right _ (List.mem_append_right _ (List.mem_append_right _ (List.mem_append_right _ (List.mem_append_right _ (List.mem_append_left _ (List.mem_of_getElem? (i := 64) rfl))))))))
set_option maxRecDepth 20000 in
theorem mm_cw183 : mm_cwd 183 ∈ k2_sels lw_privs ++ (tables_1_1 ++ (tables_1_2 ++ (tables_1_3 ++ (tables_1_4 ++ (tables_1_5 ++ (tables_1_6 ++ (tables_1_7 ++ tables_1_8))))))) := List.mem_append_right _ (List.mem_append_right _ (List.mem_append_right _ (List.mem_append_right _ (List.mem_append_right _ (List.mem_append_right _ (List.mem_append_right _ (List.mem_append_left _ (List.mem_of_getElem? (i := 60) rfl))))))))
set_option maxRecDepth 20000 in
theorem mm_cw184 : mm_cwd 184 ∈ k2_sels lw_privs ++ (tables_1_1 ++ (tables_1_2 ++ (tables_1_3 ++ (tables_1_4 ++ (tables_1_5 ++ (tables_1_6 ++ (tables_1_7 ++ tables_1_8))))))) := List.mem_append_right _ (List.mem_append_right _ (List.mem_append_right _ (List.mem_append_right _ (List.mem_append_right _ (List.mem_append_right _ (List.mem_append_right _ (List.mem_append_left _ (List.mem_of_getElem? (i := 88) rfl))))))))
set_option maxRecDepth 20000 in
theorem mm_cw185 : mm_cwd 185 ∈ k2_sels lw_privs ++ (tables_1_1 ++ (tables_1_2 ++ (tables_1_3 ++ (tables_1_4 ++ (tables_1_5 ++ (tables_1_6 ++ (tables_1_7 ++ tables_1_8))))))) := List.mem_append_right _ (List.mem_append_right _ (List.mem_append_right _ (List.mem_append_right _ (List.mem_append_right _ (List.mem_append_right _ (List.mem_append_right _ (List.mem_append_left _ (List.mem_of_getElem? (i := 84) rfl))))))))
set_option maxRecDepth 20000 in
theorem mm_cw186 : mm_cwd 186 ∈ k2_sels lw_privs ++ (tables_1_1 ++ (tables_1_2 ++ (tables_1_3 ++ (tables_1_4 ++ (tables_1_5 ++ (tables_1_6 ++ (tables_1_7 ++ tables_1_8))))))) := List.mem_append_right _ (List.mem_append_right _ (List.mem_append_right _ (List.mem_append_right _ (List.mem_append_right _ (List.mem_append_right _ (List.mem_append_left _ (List.mem_of_getElem? (i := 201) rfl)))))))
set_option maxRecDepth 20000 in
theorem mm_cw187 : mm_cwd 187 ∈ k2_sels lw_privs ++ (tables_1_1 ++ (tables_1_2 ++ (tables_1_3 ++ (tables_1_4 ++ (tables_1_5 ++ (tables_1_6 ++ (tables_1_7 ++ tables_1_8))))))) := List.mem_append_right _ (List.mem_append_right _ (List.mem_append_right _ (List.mem_append_right _ (List.mem_append_right _ (List.mem_append_right _ (List.mem_append_left _ (List.mem_of_getElem? (i := 205) rfl)))))))
set_option maxRecDepth 20000 in
theorem mm_cw188 : mm_cwd 188 ∈ k2_sels lw_privs ++ (tables_1_1 ++ (tables_1_2 ++ (tables_1_3 ++ (tables_1_4 ++ (tables_1_5 ++ (tables_1_6 ++ (tables_1_7 ++ tables_1_8))))))) := List.mem_append_right _ (List.mem_append_right _ (List.mem_append_right _ (List.mem_append_right _ (List.mem_append_right _ (List.mem_append_right _ (List.mem_append_right _ (List.mem_append_left _ (List.mem_of_getElem? (i := 36) rfl))))))))
set_option maxRecDepth 20000 in
theorem mm_cw189 : mm_cwd 189 ∈ k2_sels lw_privs ++ (tables_1_1 ++ (tables_1_2 ++ (tables_1_3 ++ (tables_1_4 ++ (tables_1_5 ++ (tables_1_6 ++ (tables_1_7 ++ tables_1_8))))))) := List.mem_append_right _ (List.mem_append_right _ (List.mem_append_right _ (List.mem_append_right _ (List.mem_append_right _ (List.mem_append_right _ (List.mem_append_left _ (List.mem_of_getElem? (i := 237) rfl)))))))
set_option maxRecDepth 20000 in
theorem mm_cw190 : mm_cwd 190 ∈ k2_sels lw_privs ++ (tables_1_1 ++ (tables_1_2 ++ (tables_1_3 ++ (tables_1_4 ++ (tables_1_5 ++ (tables_1_6 ++ (tables_1_7 ++ tables_1_8))))))) := List.mem_append_right _ (List.mem_append_right _ (List.mem_append_right _ (List.mem_append_right _ (List.mem_append_right _ (List.mem_append_right _ (List.mem_append_left _ (List.mem_of_getElem? (i := 233) rfl)))))))
set_option maxRecDepth 20000 in
theorem mm_cw191 : mm_cwd 191 ∈ k2_sels lw_privs ++ (tables_1_1 ++ (tables_1_2 ++ (tables_1_3 ++ (tables_1_4 ++ (tables_1_5 ++ (tables_1_6 ++ (tables_1_7 ++ tables_1_8))))))) := List.mem_append_right _ (List.mem_append_right _ (List.mem_append_right _ (List.mem_append_right _ (List.mem_append_right _ (List.mem_append_right _ (List.mem_append_right _ (List.mem_append_left _ (List.mem_of_getElem? (i := 24) rfl))))))))
set_option maxRecDepth 20000 in
theorem mm_cw192 : mm_cwd 192 ∈ k2_sels lw_privs ++ (tables_1_1 ++ (tables_1_2 ++ (tables_1_3 ++ (tables_1_4 ++ (tables_1_5 ++ (tables_1_6 ++ (tables_1_7 ++ tables_1_8))))))) := List.mem_append_right _ (List.mem_append_right _ (List.mem_append_right _ (List.mem_append_right _ (List.mem_append_right _ (List.mem_append_right _ (List.mem_append_right _ (List.mem_append_left _ (List.mem_of_getElem? (i := 28) rfl))))))))
set_option maxRecDepth 20000 in
theorem mm_cw193 : mm_cwd 193 ∈ k2_sels lw_privs ++ (tables_1_1 ++ (tables_1_2 ++ (tables_1_3 ++ (tables_1_4 ++ (tables_1_5 ++ (tables_1_6 ++ (tables_1_7 ++ tables_1_8))))))) := List.mem_append_right _ (List.mem_append_right _ (List.mem_append_right _ (List.mem_append_right _ (List.mem_append_right _ (List.mem_append_right _ (List.mem_append_left _ (List.mem_of_getElem? (i := 194) rfl)))))))
set_option maxRecDepth 20000 in
theorem mm_cw194 : mm_cwd 194 ∈ k2_sels lw_privs ++ (tables_1_1 ++ (tables_1_2 ++ (tables_1_3 ++ (tables_1_4 ++ (tables_1_5 ++ (tables_1_6 ++ (tables_1_7 ++ tables_1_8))))))) := List.mem_append_right _ (List.mem_append_right _ (List.mem_append_right _ (List.mem_append_right _ (List.mem_append_right _ (List.mem_append_right _ (List.mem_append_left _ (List.mem_of_getElem? (i := 213) rfl)))))))
set_option maxRecDepth 20000 in
theorem mm_cw195 : mm_cwd 195 ∈ k2_sels lw_privs ++ (tables_1_1 ++ (tables_1_2 ++ (tables_1_3 ++ (tables_1_4 ++ (tables_1_5 ++ (tables_1_6 ++ (tables_1_7 ++ tables_1_8))))))) := List.mem_append_right _ (List.mem_append_right _ (List.mem_append_right _ (List.mem_append_right _ (List.mem_append_right _ (List.mem_append_right _ (List.mem_append_left _ (List.mem_of_getElem? (i := 229) rfl)))))))
set_option maxRecDepth 20000 in
theorem mm_cw196 : mm_cwd 196 ∈ k2_sels lw_privs ++ (tables_1_1 ++ (tables_1_2 ++ (tables_1_3 ++ (tables_1_4 ++ (tables_1_5 ++ (tables_1_6 ++ (tables_1_7 ++ tables_1_8))))))) := List.mem_append_right _ (List.mem_append_right _ (List.mem_append_right _ (List.mem_append_right _ (List.mem_append_right _ (List.mem_append_right _ (List.mem_append_left _ (List.mem_of_getElem? (i := 217) rfl)))))))
set_option maxRecDepth 20000 in
theorem mm_cw197 : mm_cwd 197 ∈ k2_sels lw_privs ++ (tables_1_1 ++ (tables_1_2 ++ (tables_1_3 ++ (tables_1_4 ++ (tables_1_5 ++ (tables_1_6 ++ (tables_1_7 ++ tables_1_8))))))) := List.mem_append_right _ (List.mem_append_right _ (List.mem_append_right _ (List.mem_append_right _ (List.mem_append_right _ (List.mem_append_right _ (List.mem_append_left _ (List.mem_of_getElem? (i := 221) rfl)))))))
set_option maxRecDepth 20000 in
theorem mm_cw198 : mm_cwd 198 ∈ k2_sels lw_privs ++ (tables_1_1 ++ (tables_1_2 ++ (tables_1_3 ++ (tables_1_4 ++ (tables_1_5 ++ (tables_1_6 ++ (tables_1_7 ++ tables_1_8))))))) := List.mem_append_right _ (List.mem_append_right _ (List.mem_append_right _ (List.mem_append_right _ (List.mem_append_right _ (List.mem_append_right _ (List.mem_append_left _ (List.mem_of_getElem? (i := 209) rfl)))))))
set_option maxRecDepth 20000 in
theorem mm_cw199 : mm_cwd 199 ∈ k2_sels lw_privs ++ (tables_1_1 ++ (tables_1_2 ++ (tables_1_3 ++ (tables_1_4 ++ (tables_1_5 ++ (tables_1_6 ++ (tables_1_7 ++ tables_1_8))))))) := List.mem_append_right _ (List.mem_append_right _ (List.mem_append_right _ (List.mem_append_right _ (List.mem_append_right _ (List.mem_append_right _ (List.mem_append_right _ (List.mem_append_left _ (List.mem_of_getElem? (i := 20) rfl))))))))
set_option maxRecDepth 20000 in
theorem mm_cw200 : mm_cwd 200 ∈ k2_sels lw_privs ++ (tables_1_1 ++ (tables_1_2 ++ (tables_1_3 ++ (tables_1_4 ++ (tables_1_5 ++ (tables_1_6 ++ (tables_1_7 ++ tables_1_8))))))) := List.mem_append_right _ (List.mem_append_right _ (List.mem_append_right _ (List.mem_append_right _ (List.mem_append_right _ (List.mem_append_right _ (List.mem_append_left _ (List.mem_of_getElem? (i := 225) rfl)))))))
set_option maxRecDepth 20000 in
theorem mm_cw201 : mm_cwd 201 ∈ k2_sels lw_privs ++ (tables_1_1 ++ (tables_1_2 ++ (tables_1_3 ++ (tables_1_4 ++ (tables_1_5 ++ (tables_1_6 ++ (tables_1_7 ++ tables_1_8))))))) := List.mem_append_right _ (List.mem_append_right _ (List.mem_append_right _ (List.mem_append_right _ (List.mem_append_right _ (List.mem_append_right _ (List.mem_append_right _ (List.mem_append_left _ (List.mem_of_getElem? (i := 40) rfl))))))))
set_option maxRecDepth 20000 in
theorem mm_cw202 : mm_cwd 202 ∈ k2_sels lw_privs ++ (tables_1_1 ++ (tables_1_2 ++ (tables_1_3 ++ (tables_1_4 ++ (tables_1_5 ++ (tables_1_6 ++ (tables_1_7 ++ tables_1_8))))))) := List.mem_append_right _ (List.mem_append_right _ (List.mem_append_right _ (List.mem_append_right _ (List.mem_append_right _ (List.mem_append_right _ (List.mem_append_right _ (List.mem_append_left _ (List.mem_of_getElem? (i := 44) rfl))))))))
set_option maxRecDepth 20000 in
theorem mm_cw203 : mm_cwd 203 ∈ k2_sels lw_privs ++ (tables_1_1 ++ (tables_1_2 ++ (tables_1_3 ++ (tables_1_4 ++ (tables_1_5 ++ (tables_1_6 ++ (tables_1_7 ++ tables_1_8))))))) := List.mem_append_right _ (List.mem_append_right _ (List.mem_append_right _ (List.mem_append_right _ (List.mem_append_right _ (List.mem_append_right _ (List.mem_append_right _ (List.mem_append_left _ (List.mem_of_getElem? (i := 48) rfl))))))))
set_option maxRecDepth 20000 in
theorem mm_cw204 : mm_cwd 204 ∈ k2_sels lw_privs ++ (tables_1_1 ++ (tables_1_2 ++ (tables_1_3 ++ (tables_1_4 ++ (tables_1_5 ++ (tables_1_6 ++ (tables_1_7 ++ tables_1_8))))))) := List.mem_append_right _ (List.mem_append_right _ (List.mem_append_right _ (List.mem_append_right _ (List.mem_append_right _ (List.mem_append_right _ (List.mem_append_right _ (List.mem_append_left _ (List.mem_of_getElem? (i := 68) rfl))))))))
set_option maxRecDepth 20000 in
theorem mm_cw205 : mm_cwd 205 ∈ k2_sels lw_privs ++ (tables_1_1 ++ (tables_1_2 ++ (tables_1_3 ++ (tables_1_4 ++ (tables_1_5 ++ (tables_1_6 ++ (tables_1_7 ++ tables_1_8))))))) := List.mem_append_right _ (List.mem_append_right _ (List.mem_append_right _ (List.mem_append_right _ (List.mem_append_right _ (List.mem_append_right _ (List.mem_append_right _ (List.mem_append_left _ (List.mem_of_getElem? (i := 72) rfl))))))))
set_option maxRecDepth 20000 in
theorem mm_cw206 : mm_cwd 206 ∈ k2_sels lw_privs ++ (tables_1_1 ++ (tables_1_2 ++ (tables_1_3 ++ (tables_1_4 ++ (tables_1_5 ++ (tables_1_6 ++ (tables_1_7 ++ tables_1_8))))))) := List.mem_append_right _ (List.mem_append_right _ (List.mem_append_right _ (List.mem_append_right _ (List.mem_append_right _ (List.mem_append_right _ (List.mem_append_right _ (List.mem_append_left _ (List.mem_of_getElem? (i := 76) rfl))))))))
set_option maxRecDepth 20000 in
theorem mm_cw207 : mm_cwd 207 ∈ k2_sels lw_privs ++ (tables_1_1 ++ (tables_1_2 ++ (tables_1_3 ++ (tables_1_4 ++ (tables_1_5 ++ (tables_1_6 ++ (tables_1_7 ++ tables_1_8))))))) := List.mem_append_right _ (List.mem_append_right _ (List.mem_append_right _ (List.mem_append_right _ (List.mem_append_right _ (List.mem_append_right _ (List.mem_append_right _ (List.mem_append_left _ (List.mem_of_getElem? (i := 80) rfl))))))))
set_option maxRecDepth 20000 in
theorem mm_cw208 : mm_cwd 208 ∈ k2_sels lw_privs ++ (tables_1_1 ++ (tables_1_2 ++ (tables_1_3 ++ (tables_1_4 ++ (tables_1_5 ++ (tables_1_6 ++ (tables_1_7 ++ tables_1_8))))))) := List.mem_append_right _ (List.mem_append_right _ (List.mem_append_right _ (List.mem_append_right _ (List.mem_append_right _ (List.mem_append_right _ (List.mem_append_right _ (List.mem_append_left _ (List.mem_of_getElem? (i := 92) rfl))))))))
set_option maxRecDepth 20000 in
theorem mm_cw209 : mm_cwd 209 ∈ k2_sels lw_privs ++ (tables_1_1 ++ (tables_1_2 ++ (tables_1_3 ++ (tables_1_4 ++ (tables_1_5 ++ (tables_1_6 ++ (tables_1_7 ++ tables_1_8))))))) := List.mem_append_right _ (List.mem_append_right _ (List.mem_append_right _ (List.mem_append_right _ (List.mem_append_right _ (List.mem_append_right _ (List.mem_append_right _ (List.mem_append_left _ (List.mem_of_getElem? (i := 100) rfl))))))))
set_option maxRecDepth 20000 in
theorem mm_cw210 : mm_cwd 210 ∈ k2_sels lw_privs ++ (tables_1_1 ++ (tables_1_2 ++ (tables_1_3 ++ (tables_1_4 ++ (tables_1_5 ++ (tables_1_6 ++ (tables_1_7 ++ tables_1_8))))))) := List.mem_append_right _ (List.mem_append_right _ (List.mem_append_right _ (List.mem_append_right _ (List.mem_append_right _ (List.mem_append_right _ (List.mem_append_right _ (List.mem_append_left _ (List.mem_of_getElem? (i := 104) rfl))))))))
set_option maxRecDepth 20000 in
theorem mm_cw211 : mm_cwd 211 ∈ k2_sels lw_privs ++ (tables_1_1 ++ (tables_1_2 ++ (tables_1_3 ++ (tables_1_4 ++ (tables_1_5 ++ (tables_1_6 ++ (tables_1_7 ++ tables_1_8))))))) := List.mem_append_right _ (List.mem_append_right _ (List.mem_append_right _ (List.mem_append_right _ (List.mem_append_right _ (List.mem_append_right _ (List.mem_append_right _ (List.mem_append_left _ (List.mem_of_getElem? (i := 112) rfl))))))))
set_option maxRecDepth 20000 in
theorem mm_cw212 : mm_cwd 212 ∈ k2_sels lw_privs ++ (tables_1_1 ++ (tables_1_2 ++ (tables_1_3 ++ (tables_1_4 ++ (tables_1_5 ++ (tables_1_6 ++ (tables_1_7 ++ tables_1_8))))))) := List.mem_append_right _ (List.mem_append_right _ (List.mem_append_right _ (List.mem_append_right _ (List.mem_append_right _ (List.mem_append_right _ (List.mem_append_right _ (List.mem_append_left _ (List.mem_of_getElem? (i := 116) rfl))))))))
set_option maxRecDepth 20000 in
theorem mm_cw213 : mm_cwd 213 ∈ k2_sels lw_privs ++ (tables_1_1 ++ (tables_1_2 ++ (tables_1_3 ++ (tables_1_4 ++ (tables_1_5 ++ (tables_1_6 ++ (tables_1_7 ++ tables_1_8))))))) := List.mem_append_right _ (List.mem_append_right _ (List.mem_append_right _ (List.mem_append_right _ (List.mem_append_right _ (List.mem_append_right _ (List.mem_append_right _ (List.mem_append_left _ (List.mem_of_getElem? (i := 119) rfl))))))))
set_option maxRecDepth 20000 in
theorem mm_cw214 : mm_cwd 214 ∈ k2_sels lw_privs ++ (tables_1_1 ++ (tables_1_2 ++ (tables_1_3 ++ (tables_1_4 ++ (tables_1_5 ++ (tables_1_6 ++ (tables_1_7 ++ tables_1_8))))))) := List.mem_append_right _ (List.mem_append_right _ (List.mem_append_right _ (List.mem_append_right _ (List.mem_append_right _ (List.mem_append_right _ (List.mem_append_right _ (List.mem_append_left _ (List.mem_of_getElem? (i := 96) rfl))))))))
set_option maxRecDepth 20000 in
theorem mm_cw215 : mm_cwd 215 ∈ k2_sels lw_privs ++ (tables_1_1 ++ (tables_1_2 ++ (tables_1_3 ++ (tables_1_4 ++ (tables_1_5 ++ (tables_1_6 ++ (tables_1_7 ++ tables_1_8))))))) := List.mem_append_right _ (List.mem_append_right _ (List.mem_append_right _ (List.mem_append_right _ (List.mem_append_right _ (List.mem_append_right _ (List.mem_append_right _ (List.mem_append_left _ (List.mem_of_getElem? (i := 127) rfl))))))))
set_option maxRecDepth 20000 in
theorem mm_cw216 : mm_cwd 216 ∈ k2_sels lw_privs ++ (tables_1_1 ++ (tables_1_2 ++ (tables_1_3 ++ (tables_1_4 ++ (tables_1_5 ++ (tables_1_6 ++ (tables_1_7 ++ tables_1_8))))))) := List.mem_append_right _ (List.mem_append_right _ (List.mem_append_right _ (List.mem_append_right _ (List.mem_append_right _ (List.mem_append_right _ (List.mem_append_right _ (List.mem_append_left _ (List.mem_of_getElem? (i := 131) rfl))))))))
set_option maxRecDepth 20000 in
theorem mm_cw217 : mm_cwd 217 ∈ k2_sels lw_privs ++ (tables_1_1 ++ (tables_1_2 ++ (tables_1_3 ++ (tables_1_4 ++ (tables_1_5 ++ (tables_1_6 ++ (tables_1_7 ++ tables_1_8))))))) := List.mem_append_right _ (List.mem_append_right _ (List.mem_append_right _ (List.mem_append_right _ (List.mem_append_right _ (List.mem_append_right _ (List.mem_append_right _ (List.mem_append_left _ (List.mem_of_getElem? (i := 123) rfl))))))))
set_option maxRecDepth 20000 in
theorem mm_cw218 : mm_cwd 218 ∈ k2_sels lw_privs ++ (tables_1_1 ++ (tables_1_2 ++ (tables_1_3 ++ (tables_1_4 ++ (tables_1_5 ++ (tables_1_6 ++ (tables_1_7 ++ tables_1_8))))))) := List.mem_append_right _ (List.mem_append_right _ (List.mem_append_right _ (List.mem_append_right _ (List.mem_append_right _ (List.mem_append_right _ (List.mem_append_right _ (List.mem_append_left _ (List.mem_of_getElem? (i := 139) rfl))))))))
set_option maxRecDepth 20000 in
theorem mm_cw219 : mm_cwd 219 ∈ k2_sels lw_privs ++ (tables_1_1 ++ (tables_1_2 ++ (tables_1_3 ++ (tables_1_4 ++ (tables_1_5 ++ (tables_1_6 ++ (tables_1_7 ++ tables_1_8))))))) := List.mem_append_right _ (List.mem_append_right _ (List.mem_append_right _ (List.mem_append_right _ (List.mem_append_right _ (List.mem_append_right _ (List.mem_append_right _ (List.mem_append_left _ (List.mem_of_getElem? (i := 135) rfl))))))))
set_option maxRecDepth 20000 in
theorem mm_cw220 : mm_cwd 220 ∈ k2_sels lw_privs ++ (tables_1_1 ++ (tables_1_2 ++ (tables_1_3 ++ (tables_1_4 ++ (tables_1_5 ++ (tables_1_6 ++ (tables_1_7 ++ tables_1_8))))))) := List.mem_append_right _ (List.mem_append_right _ (List.mem_append_right _ (List.mem_append_right _ (List.mem_append_right _ (List.mem_append_right _ (List.mem_append_right _ (List.mem_append_left _ (List.mem_of_getElem? (i := 143) rfl))))))))
set_option maxRecDepth 20000 in
theorem mm_cw221 : mm_cwd 221 ∈ k2_sels lw_privs ++ (tables_1_1 ++ (tables_1_2 ++ (tables_1_3 ++ (tables_1_4 ++ (tables_1_5 ++ (tables_1_6 ++ (tables_1_7 ++ tables_1_8))))))) := List.mem_append_right _ (List.mem_append_right _ (List.mem_append_right _ (List.mem_append_right _ (List.mem_append_right _ (List.mem_append_right _ (List.mem_append_right _ (List.mem_append_left _ (List.mem_of_getElem? (i := 147) rfl))))))))
set_option maxRecDepth 20000 in
theorem mm_cw222 : mm_cwd 222 ∈ k2_sels lw_privs ++ (tables_1_1 ++ (tables_1_2 ++ (tables_1_3 ++ (tables_1_4 ++ (tables_1_5 ++ (tables_1_6 ++ (tables_1_7 ++ tables_1_8))))))) := List.mem_append_right _ (List.mem_append_right _ (List.mem_append_right _ (List.mem_append_right _ (List.mem_append_right _ (List.mem_append_right _ (List.mem_append_right _ (List.mem_append_left _ (List.mem_of_getElem? (i := 151) rfl))))))))
set_option maxRecDepth 20000 in
theorem mm_cw223 : mm_cwd 223 ∈ k2_sels lw_privs ++ (tables_1_1 ++ (tables_1_2 ++ (tables_1_3 ++ (tables_1_4 ++ (tables_1_5 ++ (tables_1_6 ++ (tables_1_7 ++ tables_1_8))))))) := List.mem_append_right _ (List.mem_append_right _ (List.mem_append_right _ (List.mem_append_right _ (List.mem_append_right _ (List.mem_append_right _ (List.mem_append_right _ (List.mem_append_left _ (List.mem_of_getElem? (i := 155) rfl))))))))
set_option maxRecDepth 20000 in
theorem mm_cw224 : mm_cwd 224 ∈ k2_sels lw_privs ++ (tables_1_1 ++ (tables_1_2 ++ (tables_1_3 ++ (tables_1_4 ++ (tables_1_5 ++ (tables_1_6 ++ (tables_1_7 ++ tables_1_8))))))) := List.mem_append_right _ (List.mem_append_right _ (List.mem_append_right _ (List.mem_append_right _ (List.mem_append_right _ (List.mem_append_right _ (List.mem_append_right _ (List.mem_append_left _ (List.mem_of_getElem? (i := 159) rfl))))))))
set_option maxRecDepth 20000 in
theorem mm_cw225 : mm_cwd 225 ∈ k2_sels lw_privs ++ (tables_1_1 ++ (tables_1_2 ++ (tables_1_3 ++ (tables_1_4 ++ (tables_1_5 ++ (tables_1_6 ++ (tables_1_7 ++ tables_1_8))))))) := List.mem_append_right _ (List.mem_append_right _ (List.mem_append_right _ (List.mem_append_right _ (List.mem_append_right _ (List.mem_append_right _ (List.mem_append_right _ (List.mem_append_left _ (List.mem_of_getElem? (i := 164) rfl))))))))
set_option maxRecDepth 20000 in
theorem mm_cw226 : mm_cwd 226 ∈ k2_sels lw_privs ++ (tables_1_1 ++ (tables_1_2 ++ (tables_1_3 ++ (tables_1_4 ++ (tables_1_5 ++ (tables_1_6 ++ (tables_1_7 ++ tables_1_8))))))) := List.mem_append_right _ (List.mem_append_right _ (List.mem_append_right _ (List.mem_append_right _ (List.mem_append_right _ (List.mem_append_right _ (List.mem_append_right _ (List.mem_append_left _ (List.mem_of_getElem? (i := 168) rfl))))))))
set_option maxRecDepth 20000 in
theorem mm_cw227 : mm_cwd 227 ∈ k2_sels lw_privs ++ (tables_1_1 ++ (tables_1_2 ++ (tables_1_3 ++ (tables_1_4 ++ (tables_1_5 ++ (tables_1_6 ++ (tables_1_7 ++ tables_1_8))))))) := List.mem_append_right _ (List.mem_append_right _ (List.mem_append_right _ (List.mem_append_right _ (List.mem_append_right _ (List.mem_append_right _ (List.mem_append_right _ (List.mem_append_left _ (List.mem_of_getElem? (i := 172) rfl))))))))
set_option maxRecDepth 20000 in
theorem mm_cw228 : mm_cwd 228 ∈ k2_sels lw_privs ++ (tables_1_1 ++ (tables_1_2 ++ (tables_1_3 ++ (tables_1_4 ++ (tables_1_5 ++ (tables_1_6 ++ (tables_1_7 ++ tables_1_8))))))) := List.mem_append_right _ (List.mem_append_right _ (List.mem_append_right _ (List.mem_append_right _ (List.mem_append_right _ (List.mem_append_right _ (List.mem_append_right _ (List.mem_append_left _ (List.mem_of_getElem? (i := 180) rfl))))))))
set_option maxRecDepth 20000 in
theorem mm_cw229 : mm_cwd 229 ∈ k2_sels lw_privs ++ (tables_1_1 ++ (tables_1_2 ++ (tables_1_3 ++ (tables_1_4 ++ (tables_1_5 ++ (tables_1_6 ++ (tables_1_7 ++ tables_1_8))))))) := List.mem_append_right _ (List.mem_append_right _ (List.mem_append_right _ (List.mem_append_right _ (List.mem_append_right _ (List.mem_append_right _ (List.mem_append_right _ (List.mem_append_left _ (List.mem_of_getElem? (i := 176) rfl))))))))
set_option maxRecDepth 20000 in
theorem mm_cw230 : mm_cwd 230 ∈ k2_sels lw_privs ++ (tables_1_1 ++ (tables_1_2 ++ (tables_1_3 ++ (tables_1_4 ++ (tables_1_5 ++ (tables_1_6 ++ (tables_1_7 ++ tables_1_8))))))) := List.mem_append_right _ (List.mem_append_right _ (List.mem_append_right _ (List.mem_append_right _ (List.mem_append_right _ (List.mem_append_right _ (List.mem_append_right _ (List.mem_append_left _ (List.mem_of_getElem? (i := 187) rfl))))))))
set_option maxRecDepth 20000 in
theorem mm_cw231 : mm_cwd 231 ∈ k2_sels lw_privs ++ (tables_1_1 ++ (tables_1_2 ++ (tables_1_3 ++ (tables_1_4 ++ (tables_1_5 ++ (tables_1_6 ++ (tables_1_7 ++ tables_1_8))))))) := List.mem_append_right _ (List.mem_append_right _ (List.mem_append_right _ (List.mem_append_right _ (List.mem_append_right _ (List.mem_append_right _ (List.mem_append_right _ (List.mem_append_left _ (List.mem_of_getElem? (i := 195) rfl))))))))
set_option maxRecDepth 20000 in
theorem mm_cw232 : mm_cwd 232 ∈ k2_sels lw_privs ++ (tables_1_1 ++ (tables_1_2 ++ (tables_1_3 ++ (tables_1_4 ++ (tables_1_5 ++ (tables_1_6 ++ (tables_1_7 ++ tables_1_8))))))) := List.mem_append_right _ (List.mem_append_right _ (List.mem_append_right _ (List.mem_append_right _ (List.mem_append_right _ (List.mem_append_right _ (List.mem_append_right _ (List.mem_append_left _ (List.mem_of_getElem? (i := 191) rfl))))))))
set_option maxRecDepth 20000 in
theorem mm_cw233 : mm_cwd 233 ∈ k2_sels lw_privs ++ (tables_1_1 ++ (tables_1_2 ++ (tables_1_3 ++ (tables_1_4 ++ (tables_1_5 ++ (tables_1_6 ++ (tables_1_7 ++ tables_1_8))))))) := List.mem_append_right _ (List.mem_append_right _ (List.mem_append_right _ (List.mem_append_right _ (List.mem_append_right _ (List.mem_append_right _ (List.mem_append_right _ (List.mem_append_left _ (List.mem_of_getElem? (i := 203) rfl))))))))
set_option maxRecDepth 20000 in
theorem mm_cw234 : mm_cwd 234 ∈ k2_sels lw_privs ++ (tables_1_1 ++ (tables_1_2 ++ (tables_1_3 ++ (tables_1_4 ++ (tables_1_5 ++ (tables_1_6 ++ (tables_1_7 ++ tables_1_8))))))) := List.mem_append_right _ (List.mem_append_right _ (List.mem_append_right _ (List.mem_append_right _ (List.mem_append_right _ (List.mem_append_right _ (List.mem_append_right _ (List.mem_append_left _ (List.mem_of_getElem? (i := 199) rfl))))))))
set_option maxRecDepth 20000 in
theorem mm_cw235 : mm_cwd 235 ∈ k2_sels lw_privs ++ (tables_1_1 ++ (tables_1_2 ++ (tables_1_3 ++ (tables_1_4 ++ (tables_1_5 ++ (tables_1_6 ++ (tables_1_7 ++ tables_1_8))))))) := List.mem_append_right _ (List.mem_append_right _ (List.mem_append_right _ (List.mem_append_right _ (List.mem_append_right _ (List.mem_append_right _ (List.mem_append_right _ (List.mem_append_left _ (List.mem_of_getElem? (i := 211) rfl))))))))
set_option maxRecDepth 20000 in
theorem mm_cw236 : mm_cwd 236 ∈ k2_sels lw_privs ++ (tables_1_1 ++ (tables_1_2 ++ (tables_1_3 ++ (tables_1_4 ++ (tables_1_5 ++ (tables_1_6 ++ (tables_1_7 ++ tables_1_8))))))) := List.mem_append_right _ (List.mem_append_right _ (List.mem_append_right _ (List.mem_append_right _ (List.mem_append_right _ (List.mem_append_right _ (List.mem_append_right _ (List.mem_append_left _ (List.mem_of_getElem? (i := 216) rfl))))))))
set_option maxRecDepth 20000 in
theorem mm_cw237 : mm_cwd 237 ∈ k2_sels lw_privs ++ (tables_1_1 ++ (tables_1_2 ++ (tables_1_3 ++ (tables_1_4 ++ (tables_1_5 ++ (tables_1_6 ++ (tables_1_7 ++ tables_1_8))))))) := List.mem_append_right _ (List.mem_append_right _ (List.mem_append_right _ (List.mem_append_right _ (List.mem_append_right _ (List.mem_append_right _ (List.mem_append_right _ (List.mem_append_left _ (List.mem_of_getElem? (i := 207) rfl))))))))
set_option maxRecDepth 20000 in
theorem mm_cw238 : mm_cwd 238 ∈ k2_sels lw_privs ++ (tables_1_1 ++ (tables_1_2 ++ (tables_1_3 ++ (tables_1_4 ++ (tables_1_5 ++ (tables_1_6 ++ (tables_1_7 ++ tables_1_8))))))) := List.mem_append_right _ (List.mem_append_right _ (List.mem_append_right _ (List.mem_append_right _ (List.mem_append_right _ (List.mem_append_right _ (List.mem_append_right _ (List.mem_append_left _ (List.mem_of_getElem? (i := 220) rfl))))))))
set_option maxRecDepth 20000 in
theorem mm_cw239 : mm_cwd 239 ∈ k2_sels lw_privs ++ (tables_1_1 ++ (tables_1_2 ++ (tables_1_3 ++ (tables_1_4 ++ (tables_1_5 ++ (tables_1_6 ++ (tables_1_7 ++ tables_1_8))))))) := List.mem_append_right _ (List.mem_append_right _ (List.mem_append_right _ (List.mem_append_right _ (List.mem_append_right _ (List.mem_append_right _ (List.mem_append_right _ (List.mem_append_left _ (List.mem_of_getElem? (i := 224) rfl))))))))
set_option maxRecDepth 20000 in
theorem mm_cw240 : mm_cwd 240 ∈ k2_sels lw_privs ++ (tables_1_1 ++ (tables_1_2 ++ (tables_1_3 ++ (tables_1_4 ++ (tables_1_5 ++ (tables_1_6 ++ (tables_1_7 ++ tables_1_8))))))) := List.mem_append_right _ (List.mem_append_right _ (List.mem_append_right _ (List.mem_append_right _ (List.mem_append_right _ (List.mem_append_right _ (List.mem_append_right _ (List.mem_append_left _ (List.mem_of_getElem? (i := 228) rfl))))))))
set_option maxRecDepth 20000 in
theorem mm_cw241 : mm_cwd 241 ∈ k2_sels lw_privs ++ (tables_1_1 ++ (tables_1_2 ++ (tables_1_3 ++ (tables_1_4 ++ (tables_1_5 ++ (tables_1_6 ++ (tables_1_7 ++ tables_1_8))))))) := List.mem_append_right _ (List.mem_append_right _ (List.mem_append_right _ (List.mem_append_right _ (List.mem_append_right _ (List.mem_append_right _ (List.mem_append_right _ (List.mem_append_left _ (List.mem_of_getElem? (i := 232) rfl))))))))
set_option maxRecDepth 20000 in
theorem mm_cw242 : mm_cwd 242 ∈ k2_sels lw_privs ++ (tables_1_1 ++ (tables_1_2 ++ (tables_1_3 ++ (tables_1_4 ++ (tables_1_5 ++ (tables_1_6 ++ (tables_1_7 ++ tables_1_8))))))) := List.mem_append_right _ (List.mem_append_right _ (List.mem_append_right _ (List.mem_append_right _ (List.mem_append_right _ (List.mem_append_right _ (List.mem_append_right _ (List.mem_append_left _ (List.mem_of_getElem? (i := 236) rfl))))))))
set_option maxRecDepth 20000 in
theorem mm_cw243 : mm_cwd 243 ∈ k2_sels lw_privs ++ (tables_1_1 ++ (tables_1_2 ++ (tables_1_3 ++ (tables_1_4 ++ (tables_1_5 ++ (tables_1_6 ++ (tables_1_7 ++ tables_1_8))))))) := List.mem_append_right _ (List.mem_append_right _ (List.mem_append_right _ (List.mem_append_right _ (List.mem_append_right _ (List.mem_append_right _ (List.mem_append_right _ (List.mem_append_right _ (List.mem_of_getElem? (i := 0) rfl))))))))
set_option maxRecDepth 20000 in
theorem mm_cw244 : mm_cwd 244 ∈ k2_sels lw_privs ++ (tables_1_1 ++ (tables_1_2 ++ (tables_1_3 ++ (tables_1_4 ++ (tables_1_5 ++ (tables_1_6 ++ (tables_1_7 ++ tables_1_8))))))) := List.mem_append_right _ (List.mem_append_right _ (List.mem_append_right _ (List.mem_append_right _ (List.mem_append_right _ (List.mem_append_right _ (List.mem_append_right _ (List.mem_append_right _ (List.mem_of_getElem? (i := 4) rfl))))))))
set_option maxRecDepth 20000 in
theorem mm_cw245 : mm_cwd 245 ∈ k2_sels lw_privs ++ (tables_1_1 ++ (tables_1_2 ++ (tables_1_3 ++ (tables_1_4 ++ (tables_1_5 ++ (tables_1_6 ++ (tables_1_7 ++ tables_1_8))))))) := List.mem_append_right _ (List.mem_append_right _ (List.mem_append_right _ (List.mem_append_right _ (List.mem_append_right _ (List.mem_append_right _ (List.mem_append_right _ (List.mem_append_right _ (List.mem_of_getElem? (i := 8) rfl))))))))
set_option maxRecDepth 20000 in
theorem mm_cw246 : mm_cwd 246 ∈ k2_sels lw_privs ++ (tables_1_1 ++ (tables_1_2 ++ (tables_1_3 ++ (tables_1_4 ++ (tables_1_5 ++ (tables_1_6 ++ (tables_1_7 ++ tables_1_8))))))) := List.mem_append_right _ (List.mem_append_right _ (List.mem_append_right _ (List.mem_append_right _ (List.mem_append_right _ (List.mem_append_right _ (List.mem_append_right _ (List.mem_append_right _ (List.mem_of_getElem? (i := 12) rfl))))))))
set_option maxRecDepth 20000 in
theorem mm_cw247 : mm_cwd 247 ∈ k2_sels lw_privs ++ (tables_1_1 ++ (tables_1_2 ++ (tables_1_3 ++ (tables_1_4 ++ (tables_1_5 ++ (tables_1_6 ++ (tables_1_7 ++ tables_1_8))))))) := List.mem_append_right _ (List.mem_append_right _ (List.mem_append_right _ (List.mem_append_right _ (List.mem_append_right _ (List.mem_append_right _ (List.mem_append_right _ (List.mem_append_right _ (List.mem_of_getElem? (i := 16) rfl))))))))
set_option maxRecDepth 20000 in
theorem mm_cw248 : mm_cwd 248 ∈ k2_sels lw_privs ++ (tables_1_1 ++ (tables_1_2 ++ (tables_1_3 ++ (tables_1_4 ++ (tables_1_5 ++ (tables_1_6 ++ (tables_1_7 ++ tables_1_8))))))) := List.mem_append_right _ (List.mem_append_right _ (List.mem_append_right _ (List.mem_append_right _ (List.mem_append_right _ (List.mem_append_right _ (List.mem_append_right _ (List.mem_append_right _ (List.mem_of_getElem? (i := 20) rfl))))))))
set_option maxRecDepth 20000 in
theorem mm_cw249 : mm_cwd 249 ∈ k2_sels lw_privs ++ (tables_1_1 ++ (tables_1_2 ++ (tables_1_3 ++ (tables_1_4 ++ (tables_1_5 ++ (tables_1_6 ++ (tables_1_7 ++ tables_1_8))))))) := List.mem_append_right _ (List.mem_append_right _ (List.mem_append_right _ (List.mem_append_left _ (List.mem_of_getElem? (i := 1) rfl))))
set_option maxRecDepth 20000 in
theorem mm_cw250 : mm_cwd 250 ∈ k2_sels lw_privs ++ (tables_1_1 ++ (tables_1_2 ++ (tables_1_3 ++ (tables_1_4 ++ (tables_1_5 ++ (tables_1_6 ++ (tables_1_7 ++ tables_1_8))))))) := List.mem_append_right _ (List.mem_append_right _ (List.mem_append_right _ (List.mem_append_right _ (List.mem_append_left _ (List.mem_of_getElem? (i := 18) rfl)))))
set_option maxRecDepth 20000 in
theorem mm_cw251 : mm_cwd 251 ∈ k2_sels lw_privs ++ (tables_1_1 ++ (tables_1_2 ++ (tables_1_3 ++ (tables_1_4 ++ (tables_1_5 ++ (tables_1_6 ++ (tables_1_7 ++ tables_1_8))))))) := List.mem_append_right _ (List.mem_append_right _ (List.mem_append_right _ (List.mem_append_right _ (List.mem_append_left _ (List.mem_of_getElem? (i := 42) rfl)))))
set_option maxRecDepth 20000 in
theorem mm_cw252 : mm_cwd 252 ∈ k2_sels lw_privs ++ (tables_1_1 ++ (tables_1_2 ++ (tables_1_3 ++ (tables_1_4 ++ (tables_1_5 ++ (tables_1_6 ++ (tables_1_7 ++ tables_1_8))))))) := List.mem_append_right _ (List.mem_append_right _ (List.mem_append_right _ (List.mem_append_right _ (List.mem_append_left _ (List.mem_of_getElem? (i := 60) rfl)))))
set_option maxRecDepth 20000 in
theorem mm_cw253 : mm_cwd 253 ∈ k2_sels lw_privs ++ (tables_1_1 ++ (tables_1_2 ++ (tables_1_3 ++ (tables_1_4 ++ (tables_1_5 ++ (tables_1_6 ++ (tables_1_7 ++ tables_1_8))))))) := List.mem_append_right _ (List.mem_append_right _ (List.mem_append_right _ (List.mem_append_right _ (List.mem_append_left _ (List.mem_of_getElem? (i := 82) rfl)))))
set_option maxRecDepth 20000 in
theorem mm_cw254 : mm_cwd 254 ∈ k2_sels lw_privs ++ (tables_1_1 ++ (tables_1_2 ++ (tables_1_3 ++ (tables_1_4 ++ (tables_1_5 ++ (tables_1_6 ++ (tables_1_7 ++ tables_1_8))))))) := List.mem_append_right _ (List.mem_append_right _ (List.mem_append_right _ (List.mem_append_right _ (List.mem_append_left _ (List.mem_of_getElem? (i := 89) rfl)))))
set_option maxRecDepth 20000 in
theorem mm_cw255 : mm_cwd 255 ∈ k2_sels lw_privs ++ (tables_1_1 ++ (tables_1_2 ++ (tables_1_3 ++ (tables_1_4 ++ (tables_1_5 ++ (tables_1_6 ++ (tables_1_7 ++ tables_1_8))))))) := List.mem_append_right _ (List.mem_append_right _ (List.mem_append_right _ (List.mem_append_right _ (List.mem_append_left _ (List.mem_of_getElem? (i := 101) rfl)))))
set_option maxRecDepth 20000 in
theorem mm_cw256 : mm_cwd 256 ∈ k2_sels lw_privs ++ (tables_1_1 ++ (tables_1_2 ++ (tables_1_3 ++ (tables_1_4 ++ (tables_1_5 ++ (tables_1_6 ++ (tables_1_7 ++ tables_1_8))))))) := List.mem_append_right _ (List.mem_append_right _ (List.mem_append_right _ (List.mem_append_right _ (List.mem_append_left _ (List.mem_of_getElem? (i := 113) rfl)))))
set_option maxRecDepth 20000 in
theorem mm_cw257 : mm_cwd 257 ∈ k2_sels lw_privs ++ (tables_1_1 ++ (tables_1_2 ++ (tables_1_3 ++ (tables_1_4 ++ (tables_1_5 ++ (tables_1_6 ++ (tables_1_7 ++ tables_1_8))))))) := List.mem_append_right _ (List.mem_append_right _ (List.mem_append_right _ (List.mem_append_right _ (List.mem_append_left _ (List.mem_of_getElem? (i := 120) rfl)))))
set_option maxRecDepth 20000 in
theorem mm_cw258 : mm_cwd 258 ∈ k2_sels lw_privs ++ (tables_1_1 ++ (tables_1_2 ++ (tables_1_3 ++ (tables_1_4 ++ (tables_1_5 ++ (tables_1_6 ++ (tables_1_7 ++ tables_1_8))))))) := List.mem_append_right _ (List.mem_append_right _ (List.mem_append_right _ (List.mem_append_right _ (List.mem_append_left _ (List.mem_of_getElem? (i := 131) rfl)))))
set_option maxRecDepth 20000 in
theorem mm_cw259 : mm_cwd 259 ∈ k2_sels lw_privs ++ (tables_1_1 ++ (tables_1_2 ++ (tables_1_3 ++ (tables_1_4 ++ (tables_1_5 ++ (tables_1_6 ++ (tables_1_7 ++ tables_1_8))))))) := List.mem_append_right _ (List.mem_append_right _ (List.mem_append_right _ (List.mem_append_right _ (List.mem_append_left _ (List.mem_of_getElem? (i := 138) rfl)))))
set_option maxRecDepth 20000 in
theorem mm_cw260 : mm_cwd 260 ∈ k2_sels lw_privs ++ (tables_1_1 ++ (tables_1_2 ++ (tables_1_3 ++ (tables_1_4 ++ (tables_1_5 ++ (tables_1_6 ++ (tables_1_7 ++ tables_1_8))))))) := List.mem_append_right _ (List.mem_append_right _ (List.mem_append_right _ (List.mem_append_right _ (List.mem_append_left _ (List.mem_of_getElem? (i := 155) rfl)))))
set_option maxRecDepth 20000 in
theorem mm_cw261 : mm_cwd 261 ∈ k2_sels lw_privs ++ (tables_1_1 ++ (tables_1_2 ++ (tables_1_3 ++ (tables_1_4 ++ (tables_1_5 ++ (tables_1_6 ++ (tables_1_7 ++ tables_1_8))))))) := List.mem_append_right _ (List.mem_append_right _ (List.mem_append_right _ (List.mem_append_right _ (List.mem_append_left _ (List.mem_of_getElem? (i := 174) rfl)))))
set_option maxRecDepth 20000 in
theorem mm_cw262 : mm_cwd 262 ∈ k2_sels lw_privs ++ (tables_1_1 ++ (tables_1_2 ++ (tables_1_3 ++ (tables_1_4 ++ (tables_1_5 ++ (tables_1_6 ++ (tables_1_7 ++ tables_1_8))))))) := List.mem_append_right _ (List.mem_append_right _ (List.mem_append_right _ (List.mem_append_right _ (List.mem_append_left _ (List.mem_of_getElem? (i := 182) rfl)))))
set_option maxRecDepth 20000 in
theorem mm_cw263 : mm_cwd 263 ∈ k2_sels lw_privs ++ (tables_1_1 ++ (tables_1_2 ++ (tables_1_3 ++ (tables_1_4 ++ (tables_1_5 ++ (tables_1_6 ++ (tables_1_7 ++ tables_1_8))))))) := List.mem_append_right _ (List.mem_append_right _ (List.mem_append_right _ (List.mem_append_right _ (List.mem_append_left _ (List.mem_of_getElem? (i := 189) rfl)))))
set_option maxRecDepth 20000 in
theorem mm_cw264 : mm_cwd 264 ∈ k2_sels lw_privs ++ (tables_1_1 ++ (tables_1_2 ++ (tables_1_3 ++ (tables_1_4 ++ (tables_1_5 ++ (tables_1_6 ++ (tables_1_7 ++ tables_1_8))))))) := List.mem_append_right _ (List.mem_append_right _ (List.mem_append_right _ (List.mem_append_right _ (List.mem_append_left _ (List.mem_of_getElem? (i := 197) rfl)))))
set_option maxRecDepth 20000 in
theorem mm_cw265 : mm_cwd 265 ∈ k2_sels lw_privs ++ (tables_1_1 ++ (tables_1_2 ++ (tables_1_3 ++ (tables_1_4 ++ (tables_1_5 ++ (tables_1_6 ++ (tables_1_7 ++ tables_1_8))))))) := List.mem_append_right _ (List.mem_append_right _ (List.mem_append_right _ (List.mem_append_right _ (List.mem_append_left _ (List.mem_of_getElem? (i := 218) rfl)))))
set_option maxRecDepth 20000 in
theorem mm_cw266 : mm_cwd 266 ∈ k2_sels lw_privs ++ (tables_1_1 ++ (tables_1_2 ++ (tables_1_3 ++ (tables_1_4 ++ (tables_1_5 ++ (tables_1_6 ++ (tables_1_7 ++ tables_1_8))))))) := List.mem_append_right _ (List.mem_append_right _ (List.mem_append_right _ (List.mem_append_right _ (List.mem_append_left _ (List.mem_of_getElem? (i := 227) rfl)))))
set_option maxRecDepth 20000 in
theorem mm_cw267 : mm_cwd 267 ∈ k2_sels lw_privs ++ (tables_1_1 ++ (tables_1_2 ++ (tables_1_3 ++ (tables_1_4 ++ (tables_1_5 ++ (tables_1_6 ++ (tables_1_7 ++ tables_1_8))))))) := List.mem_append_right _ (List.mem_append_right _ (List.mem_append_right _ (List.mem_append_right _ (List.mem_append_left _ (List.mem_of_getElem? (i := 238) rfl)))))
set_option maxRecDepth 20000 in
theorem mm_cw268 : mm_cwd 268 ∈ k2_sels lw_privs ++ (tables_1_1 ++ (tables_1_2 ++ (tables_1_3 ++ (tables_1_4 ++ (tables_1_5 ++ (tables_1_6 ++ (tables_1_7 ++ tables_1_8))))))) := List.mem_append_right _ (List.mem_append_right _ (List.mem_append_right _ (List.mem_append_right _ (List.mem_append_right _ (List.mem_append_left _ (List.mem_of_getElem? (i := 20) rfl))))))
set_option maxRecDepth 20000 in
theorem mm_cw269 : mm_cwd 269 ∈ k2_sels lw_privs ++ (tables_1_1 ++ (tables_1_2 ++ (tables_1_3 ++ (tables_1_4 ++ (tables_1_5 ++ (tables_1_6 ++ (tables_1_7 ++ tables_1_8))))))) := List.mem_append_right _ (List.mem_append_right _ (List.mem_append_right _ (List.mem_append_right _ (List.mem_append_right _ (List.mem_append_left _ (List.mem_of_getElem? (i := 32) rfl))))))
set_option maxRecDepth 20000 in
theorem mm_cw270 : mm_cwd 270 ∈ k2_sels lw_privs ++ (tables_1_1 ++ (tables_1_2 ++ (tables_1_3 ++ (tables_1_4 ++ (tables_1_5 ++ (tables_1_6 ++ (tables_1_7 ++ tables_1_8))))))) := List.mem_append_right _ (List.mem_append_right _ (List.mem_append_right _ (List.mem_append_right _ (List.mem_append_right _ (List.mem_append_left _ (List.mem_of_getElem? (i := 49) rfl))))))
set_option maxRecDepth 20000 in
theorem mm_cw271 : mm_cwd 271 ∈ k2_sels lw_privs ++ (tables_1_1 ++ (tables_1_2 ++ (tables_1_3 ++ (tables_1_4 ++ (tables_1_5 ++ (tables_1_6 ++ (tables_1_7 ++ tables_1_8))))))) := List.mem_append_right _ (List.mem_append_right _ (List.mem_append_right _ (List.mem_append_right _ (List.mem_append_right _ (List.mem_append_left _ (List.mem_of_getElem? (i := 64) rfl))))))
set_option maxRecDepth 20000 in
theorem mm_cw272 : mm_cwd 272 ∈ k2_sels lw_privs ++ (tables_1_1 ++ (tables_1_2 ++ (tables_1_3 ++ (tables_1_4 ++ (tables_1_5 ++ (tables_1_6 ++ (tables_1_7 ++ tables_1_8))))))) := List.mem_append_right _ (List.mem_append_right _ (List.mem_append_right _ (List.mem_append_right _ (List.mem_append_right _ (List.mem_append_left _ (List.mem_of_getElem? (i := 71) rfl))))))
set_option maxRecDepth 20000 in
theorem mm_cw273 : mm_cwd 273 ∈ k2_sels lw_privs ++ (tables_1_1 ++ (tables_1_2 ++ (tables_1_3 ++ (tables_1_4 ++ (tables_1_5 ++ (tables_1_6 ++ (tables_1_7 ++ tables_1_8))))))) := List.mem_append_right _ (List.mem_append_right _ (List.mem_append_right _ (List.mem_append_right _ (List.mem_append_right _ (List.mem_append_left _ (List.mem_of_getElem? (i := 83) rfl))))))
set_option maxRecDepth 20000 in
theorem mm_cw274 : mm_cwd 274 ∈ k2_sels lw_privs ++ (tables_1_1 ++ (tables_1_2 ++ (tables_1_3 ++ (tables_1_4 ++ (tables_1_5 ++ (tables_1_6 ++ (tables_1_7 ++ tables_1_8))))))) := List.mem_append_right _ (List.mem_append_right _ (List.mem_append_right _ (List.mem_append_right _ (List.mem_append_right _ (List.mem_append_left _ (List.mem_of_getElem? (i := 90) rfl))))))
set_option maxRecDepth 20000 in
theorem mm_cw275 : mm_cwd 275 ∈ k2_sels lw_privs ++ (tables_1_1 ++ (tables_1_2 ++ (tables_1_3 ++ (tables_1_4 ++ (tables_1_5 ++ (tables_1_6 ++ (tables_1_7 ++ tables_1_8))))))) := List.mem_append_right _ (List.mem_append_right _ (List.mem_append_right _ (List.mem_append_right _ (List.mem_append_right _ (List.mem_append_left _ (List.mem_of_getElem? (i := 97) rfl))))))
set_option maxRecDepth 20000 in
theorem mm_cw276 : mm_cwd 276 ∈ k2_sels lw_privs ++ (tables_1_1 ++ (tables_1_2 ++ (tables_1_3 ++ (tables_1_4 ++ (tables_1_5 ++ (tables_1_6 ++ (tables_1_7 ++ tables_1_8))))))) := List.mem_append_right _ (List.mem_append_right _ (List.mem_append_right _ (List.mem_append_right _ (List.mem_append_right _ (List.mem_append_left _ (List.mem_of_getElem? (i := 104) rfl))))))
set_option maxRecDepth 20000 in
theorem mm_cw277 : mm_cwd 277 ∈ k2_sels lw_privs ++ (tables_1_1 ++ (tables_1_2 ++ (tables_1_3 ++ (tables_1_4 ++ (tables_1_5 ++ (tables_1_6 ++ (tables_1_7 ++ tables_1_8))))))) := List.mem_append_right _ (List.mem_append_right _ (List.mem_append_right _ (List.mem_append_right _ (List.mem_append_right _ (List.mem_append_left _ (List.mem_of_getElem? (i := 111) rfl))))))
set_option maxRecDepth 20000 in
theorem mm_cw278 : mm_cwd 278 ∈ k2_sels lw_privs ++ (tables_1_1 ++ (tables_1_2 ++ (tables_1_3 ++ (tables_1_4 ++ (tables_1_5 ++ (tables_1_6 ++ (tables_1_7 ++ tables_1_8))))))) := List.mem_append_right _ (List.mem_append_right _ (List.mem_append_right _ (List.mem_append_right _ (List.mem_append_right _ (List.mem_append_left _ (List.mem_of_getElem? (i := 118) rfl))))))
theorem mm_cwc0 {k : Nat} (h : 0 ≤ k) (h2 : k < 20) : mm_cwd k ∈ mm_TB := by
  have h3 : k = 0 ∨ k = 1 ∨ k = 2 ∨ k = 3 ∨ k = 4 ∨ k = 5 ∨ k = 6 ∨ k = 7 ∨ k = 8 ∨ k = 9 ∨ k = 10 ∨ k = 11 ∨ k = 12 ∨ k = 13 ∨ k = 14 ∨ k = 15 ∨ k = 16 ∨ k = 17 ∨ k = 18 ∨ k = 19 := by omega
  rcases h3 with rfl | rfl | rfl | rfl | rfl | rfl | rfl | rfl | rfl | rfl | rfl | rfl | rfl | rfl | rfl | rfl | rfl | rfl | rfl | rfl
  · exact List.mem_filter.mpr ⟨mm_cw0, mm_cwG 0⟩
  · exact List.mem_filter.mpr ⟨mm_cw1, mm_cwG 1⟩
  · exact List.mem_filter.mpr ⟨mm_cw2, mm_cwG 2⟩
  · exact List.mem_filter.mpr ⟨mm_cw3, mm_cwG 3⟩
  · exact List.mem_filter.mpr ⟨mm_cw4, mm_cwG 4⟩
  · exact List.mem_filter.mpr ⟨mm_cw5, mm_cwG 5⟩
  · exact List.mem_filter.mpr ⟨mm_cw6, mm_cwG 6⟩
  · exact List.mem_filter.mpr ⟨mm_cw7, mm_cwG 7⟩
  · exact List.mem_filter.mpr ⟨mm_cw8, mm_cwG 8⟩
  · exact List.mem_filter.mpr ⟨mm_cw9, mm_cwG 9⟩
  · exact List.mem_filter.mpr ⟨mm_cw10, mm_cwG 10⟩
  · exact List.mem_filter.mpr ⟨mm_cw11, mm_cwG 11⟩
  · exact List.mem_filter.mpr ⟨mm_cw12, mm_cwG 12⟩
  · exact List.mem_filter.mpr ⟨mm_cw13, mm_cwG 13⟩
  · exact List.mem_filter.mpr ⟨mm_cw14, mm_cwG 14⟩
  · exact List.mem_filter.mpr ⟨mm_cw15, mm_cwG 15⟩
  · exact List.mem_filter.mpr ⟨mm_cw16, mm_cwG 16⟩
  · exact List.mem_filter.mpr ⟨mm_cw17, mm_cwG 17⟩
  · exact List.mem_filter.mpr ⟨mm_cw18, mm_cwG 18⟩
  · exact List.mem_filter.mpr ⟨mm_cw19, mm_cwG 19⟩
theorem mm_cwc20 {k : Nat} (h : 20 ≤ k) (h2 : k < 40) : mm_cwd k ∈ mm_TB := by
  have h3 : k = 20 ∨ k = 21 ∨ k = 22 ∨ k = 23 ∨ k = 24 ∨ k = 25 ∨ k = 26 ∨ k = 27 ∨ k = 28 ∨ k = 29 ∨ k = 30 ∨ k = 31 ∨ k = 32 ∨ k = 33 ∨ k = 34 ∨ k = 35 ∨ k = 36 ∨ k = 37 ∨ k = 38 ∨ k = 39 := by omega
  rcases h3 with rfl | rfl | rfl | rfl | rfl | rfl | rfl | rfl | rfl | rfl | rfl | rfl | rfl | rfl | rfl | rfl | rfl | rfl | rfl | rfl
  · exact List.mem_filter.mpr ⟨mm_cw20, mm_cwG 20⟩
  · exact List.mem_filter.mpr ⟨mm_cw21, mm_cwG 21⟩
  · exact List.mem_filter.mpr ⟨mm_cw22, mm_cwG 22⟩
  · exact List.mem_filter.mpr ⟨mm_cw23, mm_cwG 23⟩
  · exact List.mem_filter.mpr ⟨mm_cw24, mm_cwG 24⟩
  · exact List.mem_filter.mpr ⟨mm_cw25, mm_cwG 25⟩
  · exact List.mem_filter.mpr ⟨mm_cw26, mm_cwG 26⟩
  · exact List.mem_filter.mpr ⟨mm_cw27, mm_cwG 27⟩
  · exact List.mem_filter.mpr ⟨mm_cw28, mm_cwG 28⟩
  · exact List.mem_filter.mpr ⟨mm_cw29, mm_cwG 29⟩
  · exact List.mem_filter.mpr ⟨mm_cw30, mm_cwG 30⟩
  · exact List.mem_filter.mpr ⟨mm_cw31, mm_cwG 31⟩
  · exact List.mem_filter.mpr ⟨mm_cw32, mm_cwG 32⟩
  · exact List.mem_filter.mpr ⟨mm_cw33, mm_cwG 33⟩
  · exact List.mem_filter.mpr ⟨mm_cw34, mm_cwG 34⟩
  · exact List.mem_filter.mpr ⟨mm_cw35, mm_cwG 35⟩
  · exact List.mem_filter.mpr ⟨mm_cw36, mm_cwG 36⟩
  · exact List.mem_filter.mpr ⟨mm_cw37, mm_cwG 37⟩
  · exact List.mem_filter.mpr ⟨mm_cw38, mm_cwG 38⟩
  · exact List.mem_filter.mpr ⟨mm_cw39, mm_cwG 39⟩
theorem mm_cwc40 {k : Nat} (h : 40 ≤ k) (h2 : k < 60) : mm_cwd k ∈ mm_TB := by
  have h3 : k = 40 ∨ k = 41 ∨ k = 42 ∨ k = 43 ∨ k = 44 ∨ k = 45 ∨ k = 46 ∨ k = 47 ∨ k = 48 ∨ k = 49 ∨ k = 50 ∨ k = 51 ∨ k = 52 ∨ k = 53 ∨ k = 54 ∨ k = 55 ∨ k = 56 ∨ k = 57 ∨ k = 58 ∨ k = 59 := by omega
  rcases h3 with rfl | rfl | rfl | rfl | rfl | rfl | rfl | rfl | rfl | rfl | rfl | rfl | rfl | rfl | rfl | rfl | rfl | rfl | rfl | rfl
  · exact List.mem_filter.mpr ⟨mm_cw40, mm_cwG 40⟩
  · exact List.mem_filter.mpr ⟨mm_cw41, mm_cwG 41⟩
  · exact List.mem_filter.mpr ⟨mm_cw42, mm_cwG 42⟩
  · exact List.mem_filter.mpr ⟨mm_cw43, mm_cwG 43⟩
  · exact List.mem_filter.mpr ⟨mm_cw44, mm_cwG 44⟩
  · exact List.mem_filter.mpr ⟨mm_cw45, mm_cwG 45⟩
  · exact List.mem_filter.mpr ⟨mm_cw46, mm_cwG 46⟩
  · exact List.mem_filter.mpr ⟨mm_cw47, mm_cwG 47⟩
  · exact List.mem_filter.mpr ⟨mm_cw48, mm_cwG 48⟩
  · exact List.mem_filter.mpr ⟨mm_cw49, mm_cwG 49⟩
  · exact List.mem_filter.mpr ⟨mm_cw50, mm_cwG 50⟩
  · exact List.mem_filter.mpr ⟨mm_cw51, mm_cwG 51⟩
  · exact List.mem_filter.mpr ⟨mm_cw52, mm_cwG 52⟩
  · exact List.mem_filter.mpr ⟨mm_cw53, mm_cwG 53⟩
  · exact List.mem_filter.mpr ⟨mm_cw54, mm_cwG 54⟩
  · exact List.mem_filter.mpr ⟨mm_cw55, mm_cwG 55⟩
  · exact List.mem_filter.mpr ⟨mm_cw56, mm_cwG 56⟩
  · exact List.mem_filter.mpr ⟨mm_cw57, mm_cwG 57⟩
  · exact List.mem_filter.mpr ⟨mm_cw58, mm_cwG 58⟩
  · exact List.mem_filter.mpr ⟨mm_cw59, mm_cwG 59⟩
theorem mm_cwc60 {k : Nat} (h : 60 ≤ k) (h2 : k < 80) : mm_cwd k ∈ mm_TB := by
  have h3 : k = 60 ∨ k = 61 ∨ k = 62 ∨ k = 63 ∨ k = 64 ∨ k = 65 ∨ k = 66 ∨ k = 67 ∨ k = 68 ∨ k = 69 ∨ k = 70 ∨ k = 71 ∨ k = 72 ∨ k = 73 ∨ k = 74 ∨ k = 75 ∨ k = 76 ∨ k = 77 ∨ k = 78 ∨ k = 79 := by omega
  rcases h3 with rfl | rfl | rfl | rfl | rfl | rfl | rfl | rfl | rfl | rfl | rfl | rfl | rfl | rfl | rfl | rfl | rfl | rfl | rfl | rfl
  · exact List.mem_filter.mpr ⟨mm_cw60, mm_cwG 60⟩
  · exact List.mem_filter.mpr ⟨mm_cw61, mm_cwG 61⟩
  · exact List.mem_filter.mpr ⟨mm_cw62, mm_cwG 62⟩
  · exact List.mem_filter.mpr ⟨mm_cw63, mm_cwG 63⟩
  · exact List.mem_filter.mpr ⟨mm_cw64, mm_cwG 64⟩
  · exact List.mem_filter.mpr ⟨mm_cw65, mm_cwG 65⟩
  · exact List.mem_filter.mpr ⟨mm_cw66, mm_cwG 66⟩
  · exact List.mem_filter.mpr ⟨mm_cw67, mm_cwG 67⟩
  · exact List.mem_filter.mpr ⟨mm_cw68, mm_cwG 68⟩
  · exact List.mem_filter.mpr ⟨mm_cw69, mm_cwG 69⟩
  · exact List.mem_filter.mpr ⟨mm_cw70, mm_cwG 70⟩
  · exact List.mem_filter.mpr ⟨mm_cw71, mm_cwG 71⟩
  · exact List.mem_filter.mpr ⟨mm_cw72, mm_cwG 72⟩
  · exact List.mem_filter.mpr ⟨mm_cw73, mm_cwG 73⟩
  · exact List.mem_filter.mpr ⟨mm_cw74, mm_cwG 74⟩
  · exact List.mem_filter.mpr ⟨mm_cw75, mm_cwG 75⟩
  · exact List.mem_filter.mpr ⟨mm_cw76, mm_cwG 76⟩
  · exact List.mem_filter.mpr ⟨mm_cw77, mm_cwG 77⟩
  · exact List.mem_filter.mpr ⟨mm_cw78, mm_cwG 78⟩
  · exact List.mem_filter.mpr ⟨mm_cw79, mm_cwG 79⟩
theorem mm_cwc80 {k : Nat} (h : 80 ≤ k) (h2 : k < 100) : mm_cwd k ∈ mm_TB := by
  have h3 : k = 80 ∨ k = 81 ∨ k = 82 ∨ k = 83 ∨ k = 84 ∨ k = 85 ∨ k = 86 ∨ k = 87 ∨ k = 88 ∨ k = 89 ∨ k = 90 ∨ k = 91 ∨ k = 92 ∨ k = 93 ∨ k = 94 ∨ k = 95 ∨ k = 96 ∨ k = 97 ∨ k = 98 ∨ k = 99 := by omega
  rcases h3 with rfl | rfl | rfl | rfl | rfl | rfl | rfl | rfl | rfl | rfl | rfl | rfl | rfl | rfl | rfl | rfl | rfl | rfl | rfl | rfl
  · exact List.mem_filter.mpr ⟨mm_cw80, mm_cwG 80⟩
  · exact List.mem_filter.mpr ⟨mm_cw81, mm_cwG 81⟩
  · exact List.mem_filter.mpr ⟨mm_cw82, mm_cwG 82⟩
  · exact List.mem_filter.mpr ⟨mm_cw83, mm_cwG 83⟩
  · exact List.mem_filter.mpr ⟨mm_cw84, mm_cwG 84⟩
  · exact List.mem_filter.mpr ⟨mm_cw85, mm_cwG 85⟩
  · exact List.mem_filter.mpr ⟨mm_cw86, mm_cwG 86⟩
  · exact List.mem_filter.mpr ⟨mm_cw87, mm_cwG 87⟩
  · exact List.mem_filter.mpr ⟨mm_cw88, mm_cwG 88⟩
  · exact List.mem_filter.mpr ⟨mm_cw89, mm_cwG 89⟩
  · exact List.mem_filter.mpr ⟨mm_cw90, mm_cwG 90⟩
  · exact List.mem_filter.mpr ⟨mm_cw91, mm_cwG 91⟩
  · exact List.mem_filter.mpr ⟨mm_cw92, mm_cwG 92⟩
  · exact List.mem_filter.mpr ⟨mm_cw93, mm_cwG 93⟩
  · exact List.mem_filter.mpr ⟨mm_cw94, mm_cwG 94⟩
  · exact List.mem_filter.mpr ⟨mm_cw95, mm_cwG 95⟩
  · exact List.mem_filter.mpr ⟨mm_cw96, mm_cwG 96⟩
  · exact List.mem_filter.mpr ⟨mm_cw97, mm_cwG 97⟩
  · exact List.mem_filter.mpr ⟨mm_cw98, mm_cwG 98⟩
  · exact List.mem_filter.mpr ⟨mm_cw99, mm_cwG 99⟩
theorem mm_cwc100 {k : Nat} (h : 100 ≤ k) (h2 : k < 120) : mm_cwd k ∈ mm_TB := by
  have h3 : k = 100 ∨ k = 101 ∨ k = 102 ∨ k = 103 ∨ k = 104 ∨ k = 105 ∨ k = 106 ∨ k = 107 ∨ k = 108 ∨ k = 109 ∨ k = 110 ∨ k = 111 ∨ k = 112 ∨ k = 113 ∨ k = 114 ∨ k = 115 ∨ k = 116 ∨ k = 117 ∨ k = 118 ∨ k = 119 := by omega
  rcases h3 with rfl | rfl | rfl | rfl | rfl | rfl | rfl | rfl | rfl | rfl | rfl | rfl | rfl | rfl | rfl | rfl | rfl | rfl | rfl | rfl
  · exact List.mem_filter.mpr ⟨mm_cw100, mm_cwG 100⟩
  · exact List.mem_filter.mpr ⟨mm_cw101, mm_cwG 101⟩
  · exact List.mem_filter.mpr ⟨mm_cw102, mm_cwG 102⟩
  · exact List.mem_filter.mpr ⟨mm_cw103, mm_cwG 103⟩
  · exact List.mem_filter.mpr ⟨mm_cw104, mm_cwG 104⟩
  · exact List.mem_filter.mpr ⟨mm_cw105, mm_cwG 105⟩
  · exact List.mem_filter.mpr ⟨mm_cw106, mm_cwG 106⟩
  · exact List.mem_filter.mpr ⟨mm_cw107, mm_cwG 107⟩
  · exact List.mem_filter.mpr ⟨mm_cw108, mm_cwG 108⟩
  · exact List.mem_filter.mpr ⟨mm_cw109, mm_cwG 109⟩
  · exact List.mem_filter.mpr ⟨mm_cw110, mm_cwG 110⟩
  · exact List.mem_filter.mpr ⟨mm_cw111, mm_cwG 111⟩
  · exact List.mem_filter.mpr ⟨mm_cw112, mm_cwG 112⟩
  · exact List.mem_filter.mpr ⟨mm_cw113, mm_cwG 113⟩
  · exact List.mem_filter.mpr ⟨mm_cw114, mm_cwG 114⟩
  · exact List.mem_filter.mpr ⟨mm_cw115, mm_cwG 115⟩
  · exact List.mem_filter.mpr ⟨mm_cw116, mm_cwG 116⟩
  · exact List.mem_filter.mpr ⟨mm_cw117, mm_cwG 117⟩
  · exact List.mem_filter.mpr ⟨mm_cw118, mm_cwG 118⟩
  · exact List.mem_filter.mpr ⟨mm_cw119, mm_cwG 119⟩
theorem mm_cwc120 {k : Nat} (h : 120 ≤ k) (h2 : k < 140) : mm_cwd k ∈ mm_TB := by
  have h3 : k = 120 ∨ k = 121 ∨ k = 122 ∨ k = 123 ∨ k = 124 ∨ k = 125 ∨ k = 126 ∨ k = 127 ∨ k = 128 ∨ k = 129 ∨ k = 130 ∨ k = 131 ∨ k = 132 ∨ k = 133 ∨ k = 134 ∨ k = 135 ∨ k = 136 ∨ k = 137 ∨ k = 138 ∨ k = 139 := by omega
  rcases h3 with rfl | rfl | rfl | rfl | rfl | rfl | rfl | rfl | rfl | rfl | rfl | rfl | rfl | rfl | rfl | rfl | rfl | rfl | rfl | rfl
  · exact List.mem_filter.mpr ⟨mm_cw120, mm_cwG 120⟩
  · exact List.mem_filter.mpr ⟨mm_cw121, mm_cwG 121⟩
  · exact List.mem_filter.mpr ⟨mm_cw122, mm_cwG 122⟩
  · exact List.mem_filter.mpr ⟨mm_cw123, mm_cwG 123⟩
  · exact List.mem_filter.mpr ⟨mm_cw124, mm_cwG 124⟩
  · exact List.mem_filter.mpr ⟨mm_cw125, mm_cwG 125⟩
  · exact List.mem_filter.mpr ⟨mm_cw126, mm_cwG 126⟩
  · exact List.mem_filter.mpr ⟨mm_cw127, mm_cwG 127⟩
  · exact List.mem_filter.mpr ⟨mm_cw128, mm_cwG 128⟩
  · exact List.mem_filter.mpr ⟨mm_cw129, mm_cwG 129⟩
  · exact List.mem_filter.mpr ⟨mm_cw130, mm_cwG 130⟩
  · exact List.mem_filter.mpr ⟨mm_cw131, mm_cwG 131⟩
  · exact List.mem_filter.mpr ⟨mm_cw132, mm_cwG 132⟩
  · exact List.mem_filter.mpr ⟨mm_cw133, mm_cwG 133⟩
  · exact List.mem_filter.mpr ⟨mm_cw134, mm_cwG 134⟩
  · exact List.mem_filter.mpr ⟨mm_cw135, mm_cwG 135⟩
  · exact List.mem_filter.mpr ⟨mm_cw136, mm_cwG 136⟩
  · exact List.mem_filter.mpr ⟨mm_cw137, mm_cwG 137⟩
  · exact List.mem_filter.mpr ⟨mm_cw138, mm_cwG 138⟩
  · exact List.mem_filter.mpr ⟨mm_cw139, mm_cwG 139⟩
theorem mm_cwc140 {k : Nat} (h : 140 ≤ k) (h2 : k < 160) : mm_cwd k ∈ mm_TB := by
  have h3 : k = 140 ∨ k = 141 ∨ k = 142 ∨ k = 143 ∨ k = 144 ∨ k = 145 ∨ k = 146 ∨ k = 147 ∨ k = 148 ∨ k = 149 ∨ k = 150 ∨ k = 151 ∨ k = 152 ∨ k = 153 ∨ k = 154 ∨ k = 155 ∨ k = 156 ∨ k = 157 ∨ k = 158 ∨ k = 159 := by omega
  rcases h3 with rfl | rfl | rfl | rfl | rfl | rfl | rfl | rfl | rfl | rfl | rfl | rfl | rfl | rfl | rfl | rfl | rfl | rfl | rfl | rfl
  · exact List.mem_filter.mpr ⟨mm_cw140, mm_cwG 140⟩
  · exact List.mem_filter.mpr ⟨mm_cw141, mm_cwG 141⟩
  · exact List.mem_filter.mpr ⟨mm_cw142, mm_cwG 142⟩
  · exact List.mem_filter.mpr ⟨mm_cw143, mm_cwG 143⟩
  · exact List.mem_filter.mpr ⟨mm_cw144, mm_cwG 144⟩
  · exact List.mem_filter.mpr ⟨mm_cw145, mm_cwG 145⟩
  · exact List.mem_filter.mpr ⟨mm_cw146, mm_cwG 146⟩
  · exact List.mem_filter.mpr ⟨mm_cw147, mm_cwG 147⟩
  · exact List.mem_filter.mpr ⟨mm_cw148, mm_cwG 148⟩
  · exact List.mem_filter.mpr ⟨mm_cw149, mm_cwG 149⟩
  · exact List.mem_filter.mpr ⟨mm_cw150, mm_cwG 150⟩
  · exact List.mem_filter.mpr ⟨mm_cw151, mm_cwG 151⟩
  · exact List.mem_filter.mpr ⟨mm_cw152, mm_cwG 152⟩
  · exact List.mem_filter.mpr ⟨mm_cw153, mm_cwG 153⟩
  · exact List.mem_filter.mpr ⟨mm_cw154, mm_cwG 154⟩
  · exact List.mem_filter.mpr ⟨mm_cw155, mm_cwG 155⟩
  · exact List.mem_filter.mpr ⟨mm_cw156, mm_cwG 156⟩
  · exact List.mem_filter.mpr ⟨mm_cw157, mm_cwG 157⟩
  · exact List.mem_filter.mpr ⟨mm_cw158, mm_cwG 158⟩
  · exact List.mem_filter.mpr ⟨mm_cw159, mm_cwG 159⟩
theorem mm_cwc160 {k : Nat} (h : 160 ≤ k) (h2 : k < 180) : mm_cwd k ∈ mm_TB := by
  have h3 : k = 160 ∨ k = 161 ∨ k = 162 ∨ k = 163 ∨ k = 164 ∨ k = 165 ∨ k = 166 ∨ k = 167 ∨ k = 168 ∨ k = 169 ∨ k = 170 ∨ k = 171 ∨ k = 172 ∨ k = 173 ∨ k = 174 ∨ k = 175 ∨ k = 176 ∨ k = 177 ∨ k = 178 ∨ k = 179 := by omega
  rcases h3 with rfl | rfl | rfl | rfl | rfl | rfl | rfl | rfl | rfl | rfl | rfl | rfl | rfl | rfl | rfl | rfl | rfl | rfl | rfl | rfl
  · exact List.mem_filter.mpr ⟨mm_cw160, mm_cwG 160⟩
  · exact List.mem_filter.mpr ⟨mm_cw161, mm_cwG 161⟩
  · exact List.mem_filter.mpr ⟨mm_cw162, mm_cwG 162⟩
  · exact List.mem_filter.mpr ⟨mm_cw163, mm_cwG 163⟩
  · exact List.mem_filter.mpr ⟨mm_cw164, mm_cwG 164⟩
  · exact List.mem_filter.mpr ⟨mm_cw165, mm_cwG 165⟩
  · exact List.mem_filter.mpr ⟨mm_cw166, mm_cwG 166⟩
  · exact List.mem_filter.mpr ⟨mm_cw167, mm_cwG 167⟩
  · exact List.mem_filter.mpr ⟨mm_cw168, mm_cwG 168⟩
  · exact List.mem_filter.mpr ⟨mm_cw169, mm_cwG 169⟩
  · exact List.mem_filter.mpr ⟨mm_cw170, mm_cwG 170⟩
  · exact List.mem_filter.mpr ⟨mm_cw171, mm_cwG 171⟩
  · exact List.mem_filter.mpr ⟨mm_cw172, mm_cwG 172⟩
  · exact List.mem_filter.mpr ⟨mm_cw173, mm_cwG 173⟩
  · exact List.mem_filter.mpr ⟨mm_cw174, mm_cwG 174⟩
  · exact List.mem_filter.mpr ⟨mm_cw175, mm_cwG 175⟩
  · exact List.mem_filter.mpr ⟨mm_cw176, mm_cwG 176⟩
  · exact List.mem_filter.mpr ⟨mm_cw177, mm_cwG 177⟩
  · exact List.mem_filter.mpr ⟨mm_cw178, mm_cwG 178⟩
  · exact List.mem_filter.mpr ⟨mm_cw179, mm_cwG 179⟩
theorem mm_cwc180 {k : Nat} (h : 180 ≤ k) (h2 : k < 200) : mm_cwd k ∈ mm_TB := by
  have h3 : k = 180 ∨ k = 181 ∨ k = 182 ∨ k = 183 ∨ k = 184 ∨ k = 185 ∨ k = 186 ∨ k = 187 ∨ k = 188 ∨ k = 189 ∨ k = 190 ∨ k = 191 ∨ k = 192 ∨ k = 193 ∨ k = 194 ∨ k = 195 ∨ k = 196 ∨ k = 197 ∨ k = 198 ∨ k = 199 := by omega
  rcases h3 with rfl | rfl | rfl | rfl | rfl | rfl | rfl | rfl | rfl | rfl | rfl | rfl | rfl | rfl | rfl | rfl | rfl | rfl | rfl | rfl
  · exact List.mem_filter.mpr ⟨mm_cw180, mm_cwG 180⟩
  · exact List.mem_filter.mpr ⟨mm_cw181, mm_cwG 181⟩
  · exact List.mem_filter.mpr ⟨mm_cw182, mm_cwG 182⟩
  · exact List.mem_filter.mpr ⟨mm_cw183, mm_cwG 183⟩
  · exact List.mem_filter.mpr ⟨mm_cw184, mm_cwG 184⟩
  · exact List.mem_filter.mpr ⟨mm_cw185, mm_cwG 185⟩
  · exact List.mem_filter.mpr ⟨mm_cw186, mm_cwG 186⟩
  · exact List.mem_filter.mpr ⟨mm_cw187, mm_cwG 187⟩
  · exact List.mem_filter.mpr ⟨mm_cw188, mm_cwG 188⟩
  · exact List.mem_filter.mpr ⟨mm_cw189, mm_cwG 189⟩
  · exact List.mem_filter.mpr ⟨mm_cw190, mm_cwG 190⟩
  · exact List.mem_filter.mpr ⟨mm_cw191, mm_cwG 191⟩
  · exact List.mem_filter.mpr ⟨mm_cw192, mm_cwG 192⟩
  · exact List.mem_filter.mpr ⟨mm_cw193, mm_cwG 193⟩
  · exact List.mem_filter.mpr ⟨mm_cw194, mm_cwG 194⟩
  · exact List.mem_filter.mpr ⟨mm_cw195, mm_cwG 195⟩
  · exact List.mem_filter.mpr ⟨mm_cw196, mm_cwG 196⟩
  · exact List.mem_filter.mpr ⟨mm_cw197, mm_cwG 197⟩
  · exact List.mem_filter.mpr ⟨mm_cw198, mm_cwG 198⟩
  · exact List.mem_filter.mpr ⟨mm_cw199, mm_cwG 199⟩
theorem mm_cwc200 {k : Nat} (h : 200 ≤ k) (h2 : k < 220) : mm_cwd k ∈ mm_TB := by
  have h3 : k = 200 ∨ k = 201 ∨ k = 202 ∨ k = 203 ∨ k = 204 ∨ k = 205 ∨ k = 206 ∨ k = 207 ∨ k = 208 ∨ k = 209 ∨ k = 210 ∨ k = 211 ∨ k = 212 ∨ k = 213 ∨ k = 214 ∨ k = 215 ∨ k = 216 ∨ k = 217 ∨ k = 218 ∨ k = 219 := by omega
  rcases h3 with rfl | rfl | rfl | rfl | rfl | rfl | rfl | rfl | rfl | rfl | rfl | rfl | rfl | rfl | rfl | rfl | rfl | rfl | rfl | rfl
  · exact List.mem_filter.mpr ⟨mm_cw200, mm_cwG 200⟩
  · exact List.mem_filter.mpr ⟨mm_cw201, mm_cwG 201⟩
  · exact List.mem_filter.mpr ⟨mm_cw202, mm_cwG 202⟩
  · exact List.mem_filter.mpr ⟨mm_cw203, mm_cwG 203⟩
  · exact List.mem_filter.mpr ⟨mm_cw204, mm_cwG 204⟩
  · exact List.mem_filter.mpr ⟨mm_cw205, mm_cwG 205⟩
  · exact List.mem_filter.mpr ⟨mm_cw206, mm_cwG 206⟩
  · exact List.mem_filter.mpr ⟨mm_cw207, mm_cwG 207⟩
  · exact List.mem_filter.mpr ⟨mm_cw208, mm_cwG 208⟩
  · exact List.mem_filter.mpr ⟨mm_cw209, mm_cwG 209⟩
  · exact List.mem_filter.mpr ⟨mm_cw210, mm_cwG 210⟩
  · exact List.mem_filter.mpr ⟨mm_cw211, mm_cwG 211⟩
  · exact List.mem_filter.mpr ⟨mm_cw212, mm_cwG 212⟩
  · exact List.mem_filter.mpr ⟨mm_cw213, mm_cwG 213⟩
  · exact List.mem_filter.mpr ⟨mm_cw214, mm_cwG 214⟩
  · exact List.mem_filter.mpr ⟨mm_cw215, mm_cwG 215⟩
  · exact List.mem_filter.mpr ⟨mm_cw216, mm_cwG 216⟩
  · exact List.mem_filter.mpr ⟨mm_cw217, mm_cwG 217⟩
  · exact List.mem_filter.mpr ⟨mm_cw218, mm_cwG 218⟩
  · exact List.mem_filter.mpr ⟨mm_cw219, mm_cwG 219⟩
theorem mm_cwc220 {k : Nat} (h : 220 ≤ k) (h2 : k < 240) : mm_cwd k ∈ mm_TB := by
  have h3 : k = 220 ∨ k = 221 ∨ k = 222 ∨ k = 223 ∨ k = 224 ∨ k = 225 ∨ k = 226 ∨ k = 227 ∨ k = 228 ∨ k = 229 ∨ k = 230 ∨ k = 231 ∨ k = 232 ∨ k = 233 ∨ k = 234 ∨ k = 235 ∨ k = 236 ∨ k = 237 ∨ k = 238 ∨ k = 239 := by omega
  rcases h3 with rfl | rfl | rfl | rfl | rfl | rfl | rfl | rfl | rfl | rfl | rfl | rfl | rfl | rfl | rfl | rfl | rfl | rfl | rfl | rfl
  · exact List.mem_filter.mpr ⟨mm_cw220, mm_cwG 220⟩
  · exact List.mem_filter.mpr ⟨mm_cw221, mm_cwG 221⟩
  · exact List.mem_filter.mpr ⟨mm_cw222, mm_cwG 222⟩
  · exact List.mem_filter.mpr ⟨mm_cw223, mm_cwG 223⟩
  · exact List.mem_filter.mpr ⟨mm_cw224, mm_cwG 224⟩
  · exact List.mem_filter.mpr ⟨mm_cw225, mm_cwG 225⟩
  · exact List.mem_filter.mpr ⟨mm_cw226, mm_cwG 226⟩
  · exact List.mem_filter.mpr ⟨mm_cw227, mm_cwG 227⟩
  · exact List.mem_filter.mpr ⟨mm_cw228, mm_cwG 228⟩
  · exact List.mem_filter.mpr ⟨mm_cw229, mm_cwG 229⟩
  · exact List.mem_filter.mpr ⟨mm_cw230, mm_cwG 230⟩
  · exact List.mem_filter.mpr ⟨mm_cw231, mm_cwG 231⟩
  · exact List.mem_filter.mpr ⟨mm_cw232, mm_cwG 232⟩
  · exact List.mem_filter.mpr ⟨mm_cw233, mm_cwG 233⟩
  · exact List.mem_filter.mpr ⟨mm_cw234, mm_cwG 234⟩
  · exact List.mem_filter.mpr ⟨mm_cw235, mm_cwG 235⟩
  · exact List.mem_filter.mpr ⟨mm_cw236, mm_cwG 236⟩
  · exact List.mem_filter.mpr ⟨mm_cw237, mm_cwG 237⟩
  · exact List.mem_filter.mpr ⟨mm_cw238, mm_cwG 238⟩
  · exact List.mem_filter.mpr ⟨mm_cw239, mm_cwG 239⟩
theorem mm_cwc240 {k : Nat} (h : 240 ≤ k) (h2 : k < 260) : mm_cwd k ∈ mm_TB := by
  have h3 : k = 240 ∨ k = 241 ∨ k = 242 ∨ k = 243 ∨ k = 244 ∨ k = 245 ∨ k = 246 ∨ k = 247 ∨ k = 248 ∨ k = 249 ∨ k = 250 ∨ k = 251 ∨ k = 252 ∨ k = 253 ∨ k = 254 ∨ k = 255 ∨ k = 256 ∨ k = 257 ∨ k = 258 ∨ k = 259 := by omega
  rcases h3 with rfl | rfl | rfl | rfl | rfl | rfl | rfl | rfl | rfl | rfl | rfl | rfl | rfl | rfl | rfl | rfl | rfl | rfl | rfl | rfl
  · exact List.mem_filter.mpr ⟨mm_cw240, mm_cwG 240⟩
  · exact List.mem_filter.mpr ⟨mm_cw241, mm_cwG 241⟩
  · exact List.mem_filter.mpr ⟨mm_cw242, mm_cwG 242⟩
  · exact List.mem_filter.mpr ⟨mm_cw243, mm_cwG 243⟩
  · exact List.mem_filter.mpr ⟨mm_cw244, mm_cwG 244⟩
  · exact List.mem_filter.mpr ⟨mm_cw245, mm_cwG 245⟩
  · exact List.mem_filter.mpr ⟨mm_cw246, mm_cwG 246⟩
  · exact List.mem_filter.mpr ⟨mm_cw247, mm_cwG 247⟩
  · exact List.mem_filter.mpr ⟨mm_cw248, mm_cwG 248⟩
  · exact List.mem_filter.mpr ⟨mm_cw249, mm_cwG 249⟩
  · exact List.mem_filter.mpr ⟨mm_cw250, mm_cwG 250⟩
  · exact List.mem_filter.mpr ⟨mm_cw251, mm_cwG 251⟩
  · exact List.mem_filter.mpr ⟨mm_cw252, mm_cwG 252⟩
  · exact List.mem_filter.mpr ⟨mm_cw253, mm_cwG 253⟩
  · exact List.mem_filter.mpr ⟨mm_cw254, mm_cwG 254⟩
  · exact List.mem_filter.mpr ⟨mm_cw255, mm_cwG 255⟩
  · exact List.mem_filter.mpr ⟨mm_cw256, mm_cwG 256⟩
  · exact List.mem_filter.mpr ⟨mm_cw257, mm_cwG 257⟩
  · exact List.mem_filter.mpr ⟨mm_cw258, mm_cwG 258⟩
  · exact List.mem_filter.mpr ⟨mm_cw259, mm_cwG 259⟩
theorem mm_cwc260 {k : Nat} (h : 260 ≤ k) (h2 : k < 279) : mm_cwd k ∈ mm_TB := by
  have h3 : k = 260 ∨ k = 261 ∨ k = 262 ∨ k = 263 ∨ k = 264 ∨ k = 265 ∨ k = 266 ∨ k = 267 ∨ k = 268 ∨ k = 269 ∨ k = 270 ∨ k = 271 ∨ k = 272 ∨ k = 273 ∨ k = 274 ∨ k = 275 ∨ k = 276 ∨ k = 277 ∨ k = 278 := by omega
  rcases h3 with rfl | rfl | rfl | rfl | rfl | rfl | rfl | rfl | rfl | rfl | rfl | rfl | rfl | rfl | rfl | rfl | rfl | rfl | rfl
  · exact List.mem_filter.mpr ⟨mm_cw260, mm_cwG 260⟩
  · exact List.mem_filter.mpr ⟨mm_cw261, mm_cwG 261⟩
  · exact List.mem_filter.mpr ⟨mm_cw262, mm_cwG 262⟩
  · exact List.mem_filter.mpr ⟨mm_cw263, mm_cwG 263⟩
  · exact List.mem_filter.mpr ⟨mm_cw264, mm_cwG 264⟩
  · exact List.mem_filter.mpr ⟨mm_cw265, mm_cwG 265⟩
  · exact List.mem_filter.mpr ⟨mm_cw266, mm_cwG 266⟩
  · exact List.mem_filter.mpr ⟨mm_cw267, mm_cwG 267⟩
  · exact List.mem_filter.mpr ⟨mm_cw268, mm_cwG 268⟩
  · exact List.mem_filter.mpr ⟨mm_cw269, mm_cwG 269⟩
  · exact List.mem_filter.mpr ⟨mm_cw270, mm_cwG 270⟩
  · exact List.mem_filter.mpr ⟨mm_cw271, mm_cwG 271⟩
  · exact List.mem_filter.mpr ⟨mm_cw272, mm_cwG 272⟩
  · exact List.mem_filter.mpr ⟨mm_cw273, mm_cwG 273⟩
  · exact List.mem_filter.mpr ⟨mm_cw274, mm_cwG 274⟩
  · exact List.mem_filter.mpr ⟨mm_cw275, mm_cwG 275⟩
  · exact List.mem_filter.mpr ⟨mm_cw276, mm_cwG 276⟩
  · exact List.mem_filter.mpr ⟨mm_cw277, mm_cwG 277⟩
  · exact List.mem_filter.mpr ⟨mm_cw278, mm_cwG 278⟩
theorem mm_cwAll {k : Nat} (h : k < 279) : mm_cwd k ∈ mm_TB := by
  by_cases h0 : k < 20
  · exact mm_cwc0 (by omega) h0
  by_cases h20 : k < 40
  · exact mm_cwc20 (by omega) h20
  by_cases h40 : k < 60
  · exact mm_cwc40 (by omega) h40
  by_cases h60 : k < 80
  · exact mm_cwc60 (by omega) h60
  by_cases h80 : k < 100
  · exact mm_cwc80 (by omega) h80
  by_cases h100 : k < 120
  · exact mm_cwc100 (by omega) h100
  by_cases h120 : k < 140
  · exact mm_cwc120 (by omega) h120
  by_cases h140 : k < 160
  · exact mm_cwc140 (by omega) h140
  by_cases h160 : k < 180
  · exact mm_cwc160 (by omega) h160
  by_cases h180 : k < 200
  · exact mm_cwc180 (by omega) h180
  by_cases h200 : k < 220
  · exact mm_cwc200 (by omega) h200
  by_cases h220 : k < 240
  · exact mm_cwc220 (by omega) h220
  by_cases h240 : k < 260
  · exact mm_cwc240 (by omega) h240
  by_cases h260 : k < 279
  · exact mm_cwc260 (by omega) h260
  omega
