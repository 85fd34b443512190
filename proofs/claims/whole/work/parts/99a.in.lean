theorem j_0 {w : Cond} (h : w ∈ k2_sels lw_privs) : w ∈ lw_tbl := List.mem_append_left _ h
theorem j_1 {w : Cond} (h : w ∈ tables_1_1) : w ∈ lw_tbl := List.mem_append_right _ (List.mem_append_left _ h)
theorem j_2 {w : Cond} (h : w ∈ tables_1_2) : w ∈ lw_tbl := List.mem_append_right _ (List.mem_append_right _ (List.mem_append_left _ h))
theorem j_3 {w : Cond} (h : w ∈ tables_1_3) : w ∈ lw_tbl := List.mem_append_right _ (List.mem_append_right _ (List.mem_append_right _ (List.mem_append_left _ h)))
theorem j_4 {w : Cond} (h : w ∈ tables_1_4) : w ∈ lw_tbl := List.mem_append_right _ (List.mem_append_right _ (List.mem_append_right _ (List.mem_append_right _ (List.mem_append_left _ h))))
theorem j_5 {w : Cond} (h : w ∈ tables_1_5) : w ∈ lw_tbl := List.mem_append_right _ (List.mem_append_right _ (List.mem_append_right _ (List.mem_append_right _ (List.mem_append_right _ (List.mem_append_left _ h)))))
theorem j_6 {w : Cond} (h : w ∈ tables_1_6) : w ∈ lw_tbl := List.mem_append_right _ (List.mem_append_right _ (List.mem_append_right _ (List.mem_append_right _ (List.mem_append_right _ (List.mem_append_right _ h)))))
theorem i_r1 : ∀ w ∈ wsL_law_r1, w ∈ lw_tbl :=
  List.forall_mem_cons.mpr ⟨j_1 (List.mem_of_getElem? (i := 20) rfl),
  List.forall_mem_cons.mpr ⟨j_1 (List.mem_of_getElem? (i := 21) rfl),
  List.forall_mem_cons.mpr ⟨j_1 (List.mem_of_getElem? (i := 1) rfl),
  List.forall_mem_cons.mpr ⟨j_4 (List.mem_of_getElem? (i := 96) rfl),
  List.forall_mem_cons.mpr ⟨j_4 (List.mem_of_getElem? (i := 97) rfl),
  List.forall_mem_cons.mpr ⟨j_1 (List.mem_of_getElem? (i := 12) rfl),
  List.forall_mem_cons.mpr ⟨j_6 (List.mem_of_getElem? (i := 138) rfl),
  List.forall_mem_cons.mpr ⟨j_1 (List.mem_of_getElem? (i := 22) rfl),
  List.forall_mem_cons.mpr ⟨j_1 (List.mem_of_getElem? (i := 23) rfl),
  List.forall_mem_cons.mpr ⟨j_1 (List.mem_of_getElem? (i := 24) rfl),
  List.forall_mem_cons.mpr ⟨j_1 (List.mem_of_getElem? (i := 25) rfl),
  List.forall_mem_cons.mpr ⟨j_1 (List.mem_of_getElem? (i := 26) rfl),
  List.forall_mem_cons.mpr ⟨j_1 (List.mem_of_getElem? (i := 27) rfl),
  List.forall_mem_cons.mpr ⟨j_1 (List.mem_of_getElem? (i := 70) rfl),
  List.forall_mem_cons.mpr ⟨j_2 (List.mem_of_getElem? (i := 45) rfl),
  List.forall_mem_cons.mpr ⟨j_2 (List.mem_of_getElem? (i := 46) rfl),
  List.forall_mem_cons.mpr ⟨j_2 (List.mem_of_getElem? (i := 47) rfl),
  List.forall_mem_cons.mpr ⟨j_2 (List.mem_of_getElem? (i := 48) rfl),
  List.forall_mem_cons.mpr ⟨j_1 (List.mem_of_getElem? (i := 28) rfl),
  List.forall_mem_cons.mpr ⟨j_2 (List.mem_of_getElem? (i := 49) rfl),
  List.forall_mem_cons.mpr ⟨j_1 (List.mem_of_getElem? (i := 30) rfl),
  List.forall_mem_cons.mpr ⟨j_1 (List.mem_of_getElem? (i := 31) rfl),
  List.forall_mem_cons.mpr ⟨j_1 (List.mem_of_getElem? (i := 2) rfl),
  List.forall_mem_cons.mpr ⟨j_2 (List.mem_of_getElem? (i := 50) rfl), fun _ h => absurd h List.not_mem_nil⟩⟩⟩⟩⟩⟩⟩⟩⟩⟩⟩⟩⟩⟩⟩⟩⟩⟩⟩⟩⟩⟩⟩⟩
theorem i_r2 : ∀ w ∈ wsL_law_r2, w ∈ lw_tbl :=
  List.forall_mem_cons.mpr ⟨j_1 (List.mem_of_getElem? (i := 191) rfl),
  List.forall_mem_cons.mpr ⟨j_2 (List.mem_of_getElem? (i := 51) rfl),
  List.forall_mem_cons.mpr ⟨j_1 (List.mem_of_getElem? (i := 193) rfl),
  List.forall_mem_cons.mpr ⟨j_1 (List.mem_of_getElem? (i := 194) rfl),
  List.forall_mem_cons.mpr ⟨j_1 (List.mem_of_getElem? (i := 9) rfl),
  List.forall_mem_cons.mpr ⟨j_1 (List.mem_of_getElem? (i := 239) rfl),
  List.forall_mem_cons.mpr ⟨j_1 (List.mem_of_getElem? (i := 11) rfl),
  List.forall_mem_cons.mpr ⟨j_1 (List.mem_of_getElem? (i := 33) rfl),
  List.forall_mem_cons.mpr ⟨j_1 (List.mem_of_getElem? (i := 34) rfl),
  List.forall_mem_cons.mpr ⟨j_1 (List.mem_of_getElem? (i := 35) rfl),
  List.forall_mem_cons.mpr ⟨j_1 (List.mem_of_getElem? (i := 36) rfl),
  List.forall_mem_cons.mpr ⟨j_1 (List.mem_of_getElem? (i := 37) rfl),
  List.forall_mem_cons.mpr ⟨j_1 (List.mem_of_getElem? (i := 3) rfl),
  List.forall_mem_cons.mpr ⟨j_1 (List.mem_of_getElem? (i := 169) rfl),
  List.forall_mem_cons.mpr ⟨j_1 (List.mem_of_getElem? (i := 72) rfl),
  List.forall_mem_cons.mpr ⟨j_1 (List.mem_of_getElem? (i := 73) rfl),
  List.forall_mem_cons.mpr ⟨j_1 (List.mem_of_getElem? (i := 4) rfl),
  List.forall_mem_cons.mpr ⟨j_1 (List.mem_of_getElem? (i := 172) rfl),
  List.forall_mem_cons.mpr ⟨j_1 (List.mem_of_getElem? (i := 95) rfl),
  List.forall_mem_cons.mpr ⟨j_1 (List.mem_of_getElem? (i := 96) rfl),
  List.forall_mem_cons.mpr ⟨j_1 (List.mem_of_getElem? (i := 5) rfl),
  List.forall_mem_cons.mpr ⟨j_1 (List.mem_of_getElem? (i := 175) rfl),
  List.forall_mem_cons.mpr ⟨j_1 (List.mem_of_getElem? (i := 114) rfl),
  List.forall_mem_cons.mpr ⟨j_1 (List.mem_of_getElem? (i := 115) rfl), fun _ h => absurd h List.not_mem_nil⟩⟩⟩⟩⟩⟩⟩⟩⟩⟩⟩⟩⟩⟩⟩⟩⟩⟩⟩⟩⟩⟩⟩⟩
theorem i_r3 : ∀ w ∈ wsL_law_r3, w ∈ lw_tbl :=
  List.forall_mem_cons.mpr ⟨j_1 (List.mem_of_getElem? (i := 6) rfl),
  List.forall_mem_cons.mpr ⟨j_1 (List.mem_of_getElem? (i := 179) rfl),
  List.forall_mem_cons.mpr ⟨j_1 (List.mem_of_getElem? (i := 39) rfl),
  List.forall_mem_cons.mpr ⟨j_1 (List.mem_of_getElem? (i := 40) rfl),
  List.forall_mem_cons.mpr ⟨j_1 (List.mem_of_getElem? (i := 41) rfl),
  List.forall_mem_cons.mpr ⟨j_1 (List.mem_of_getElem? (i := 42) rfl),
  List.forall_mem_cons.mpr ⟨j_1 (List.mem_of_getElem? (i := 43) rfl),
  List.forall_mem_cons.mpr ⟨j_1 (List.mem_of_getElem? (i := 71) rfl),
  List.forall_mem_cons.mpr ⟨j_1 (List.mem_of_getElem? (i := 44) rfl),
  List.forall_mem_cons.mpr ⟨j_1 (List.mem_of_getElem? (i := 45) rfl),
  List.forall_mem_cons.mpr ⟨j_1 (List.mem_of_getElem? (i := 46) rfl),
  List.forall_mem_cons.mpr ⟨j_1 (List.mem_of_getElem? (i := 47) rfl),
  List.forall_mem_cons.mpr ⟨j_1 (List.mem_of_getElem? (i := 48) rfl),
  List.forall_mem_cons.mpr ⟨j_1 (List.mem_of_getElem? (i := 49) rfl),
  List.forall_mem_cons.mpr ⟨j_1 (List.mem_of_getElem? (i := 50) rfl),
  List.forall_mem_cons.mpr ⟨j_1 (List.mem_of_getElem? (i := 75) rfl),
  List.forall_mem_cons.mpr ⟨j_1 (List.mem_of_getElem? (i := 76) rfl),
  List.forall_mem_cons.mpr ⟨j_1 (List.mem_of_getElem? (i := 77) rfl),
  List.forall_mem_cons.mpr ⟨j_1 (List.mem_of_getElem? (i := 94) rfl),
  List.forall_mem_cons.mpr ⟨j_1 (List.mem_of_getElem? (i := 78) rfl),
  List.forall_mem_cons.mpr ⟨j_1 (List.mem_of_getElem? (i := 79) rfl),
  List.forall_mem_cons.mpr ⟨j_1 (List.mem_of_getElem? (i := 80) rfl),
  List.forall_mem_cons.mpr ⟨j_1 (List.mem_of_getElem? (i := 81) rfl),
  List.forall_mem_cons.mpr ⟨j_1 (List.mem_of_getElem? (i := 82) rfl), fun _ h => absurd h List.not_mem_nil⟩⟩⟩⟩⟩⟩⟩⟩⟩⟩⟩⟩⟩⟩⟩⟩⟩⟩⟩⟩⟩⟩⟩⟩
theorem i_r4 : ∀ w ∈ wsL_law_r4, w ∈ lw_tbl :=
  List.forall_mem_cons.mpr ⟨j_1 (List.mem_of_getElem? (i := 97) rfl),
  List.forall_mem_cons.mpr ⟨j_1 (List.mem_of_getElem? (i := 98) rfl),
  List.forall_mem_cons.mpr ⟨j_1 (List.mem_of_getElem? (i := 99) rfl),
  List.forall_mem_cons.mpr ⟨j_1 (List.mem_of_getElem? (i := 100) rfl),
  List.forall_mem_cons.mpr ⟨j_1 (List.mem_of_getElem? (i := 102) rfl),
  List.forall_mem_cons.mpr ⟨j_1 (List.mem_of_getElem? (i := 103) rfl),
  List.forall_mem_cons.mpr ⟨j_1 (List.mem_of_getElem? (i := 104) rfl),
  List.forall_mem_cons.mpr ⟨j_1 (List.mem_of_getElem? (i := 101) rfl),
  List.forall_mem_cons.mpr ⟨j_1 (List.mem_of_getElem? (i := 117) rfl),
  List.forall_mem_cons.mpr ⟨j_1 (List.mem_of_getElem? (i := 118) rfl),
  List.forall_mem_cons.mpr ⟨j_1 (List.mem_of_getElem? (i := 119) rfl),
  List.forall_mem_cons.mpr ⟨j_1 (List.mem_of_getElem? (i := 120) rfl),
  List.forall_mem_cons.mpr ⟨j_1 (List.mem_of_getElem? (i := 121) rfl),
  List.forall_mem_cons.mpr ⟨j_1 (List.mem_of_getElem? (i := 7) rfl),
  List.forall_mem_cons.mpr ⟨j_1 (List.mem_of_getElem? (i := 156) rfl),
  List.forall_mem_cons.mpr ⟨j_1 (List.mem_of_getElem? (i := 137) rfl),
  List.forall_mem_cons.mpr ⟨j_1 (List.mem_of_getElem? (i := 138) rfl),
  List.forall_mem_cons.mpr ⟨j_1 (List.mem_of_getElem? (i := 8) rfl),
  List.forall_mem_cons.mpr ⟨j_1 (List.mem_of_getElem? (i := 157) rfl),
  List.forall_mem_cons.mpr ⟨j_1 (List.mem_of_getElem? (i := 158) rfl),
  List.forall_mem_cons.mpr ⟨j_1 (List.mem_of_getElem? (i := 159) rfl),
  List.forall_mem_cons.mpr ⟨j_1 (List.mem_of_getElem? (i := 123) rfl),
  List.forall_mem_cons.mpr ⟨j_1 (List.mem_of_getElem? (i := 124) rfl),
  List.forall_mem_cons.mpr ⟨j_1 (List.mem_of_getElem? (i := 125) rfl), fun _ h => absurd h List.not_mem_nil⟩⟩⟩⟩⟩⟩⟩⟩⟩⟩⟩⟩⟩⟩⟩⟩⟩⟩⟩⟩⟩⟩⟩⟩
theorem i_r5 : ∀ w ∈ wsL_law_r5, w ∈ lw_tbl :=
  List.forall_mem_cons.mpr ⟨j_1 (List.mem_of_getElem? (i := 126) rfl),
  List.forall_mem_cons.mpr ⟨j_1 (List.mem_of_getElem? (i := 128) rfl),
  List.forall_mem_cons.mpr ⟨j_1 (List.mem_of_getElem? (i := 129) rfl),
  List.forall_mem_cons.mpr ⟨j_1 (List.mem_of_getElem? (i := 140) rfl),
  List.forall_mem_cons.mpr ⟨j_1 (List.mem_of_getElem? (i := 141) rfl),
  List.forall_mem_cons.mpr ⟨j_1 (List.mem_of_getElem? (i := 142) rfl),
  List.forall_mem_cons.mpr ⟨j_1 (List.mem_of_getElem? (i := 143) rfl),
  List.forall_mem_cons.mpr ⟨j_1 (List.mem_of_getElem? (i := 144) rfl),
  List.forall_mem_cons.mpr ⟨j_1 (List.mem_of_getElem? (i := 145) rfl),
  List.forall_mem_cons.mpr ⟨j_1 (List.mem_of_getElem? (i := 146) rfl),
  List.forall_mem_cons.mpr ⟨j_1 (List.mem_of_getElem? (i := 195) rfl),
  List.forall_mem_cons.mpr ⟨j_1 (List.mem_of_getElem? (i := 196) rfl),
  List.forall_mem_cons.mpr ⟨j_1 (List.mem_of_getElem? (i := 197) rfl),
  List.forall_mem_cons.mpr ⟨j_1 (List.mem_of_getElem? (i := 198) rfl),
  List.forall_mem_cons.mpr ⟨j_1 (List.mem_of_getElem? (i := 222) rfl),
  List.forall_mem_cons.mpr ⟨j_1 (List.mem_of_getElem? (i := 224) rfl),
  List.forall_mem_cons.mpr ⟨j_1 (List.mem_of_getElem? (i := 199) rfl),
  List.forall_mem_cons.mpr ⟨j_1 (List.mem_of_getElem? (i := 200) rfl),
  List.forall_mem_cons.mpr ⟨j_1 (List.mem_of_getElem? (i := 10) rfl),
  List.forall_mem_cons.mpr ⟨j_1 (List.mem_of_getElem? (i := 178) rfl),
  List.forall_mem_cons.mpr ⟨j_1 (List.mem_of_getElem? (i := 225) rfl),
  List.forall_mem_cons.mpr ⟨j_1 (List.mem_of_getElem? (i := 173) rfl),
  List.forall_mem_cons.mpr ⟨j_1 (List.mem_of_getElem? (i := 226) rfl),
  List.forall_mem_cons.mpr ⟨j_1 (List.mem_of_getElem? (i := 176) rfl), fun _ h => absurd h List.not_mem_nil⟩⟩⟩⟩⟩⟩⟩⟩⟩⟩⟩⟩⟩⟩⟩⟩⟩⟩⟩⟩⟩⟩⟩⟩
theorem i_r6 : ∀ w ∈ wsL_law_r6, w ∈ lw_tbl :=
  List.forall_mem_cons.mpr ⟨j_1 (List.mem_of_getElem? (i := 227) rfl),
  List.forall_mem_cons.mpr ⟨j_1 (List.mem_of_getElem? (i := 201) rfl),
  List.forall_mem_cons.mpr ⟨j_1 (List.mem_of_getElem? (i := 202) rfl),
  List.forall_mem_cons.mpr ⟨j_1 (List.mem_of_getElem? (i := 203) rfl),
  List.forall_mem_cons.mpr ⟨j_1 (List.mem_of_getElem? (i := 204) rfl),
  List.forall_mem_cons.mpr ⟨j_1 (List.mem_of_getElem? (i := 205) rfl),
  List.forall_mem_cons.mpr ⟨j_1 (List.mem_of_getElem? (i := 207) rfl),
  List.forall_mem_cons.mpr ⟨j_1 (List.mem_of_getElem? (i := 209) rfl),
  List.forall_mem_cons.mpr ⟨j_1 (List.mem_of_getElem? (i := 210) rfl),
  List.forall_mem_cons.mpr ⟨j_1 (List.mem_of_getElem? (i := 208) rfl),
  List.forall_mem_cons.mpr ⟨j_2 (List.mem_of_getElem? (i := 0) rfl),
  List.forall_mem_cons.mpr ⟨j_2 (List.mem_of_getElem? (i := 1) rfl),
  List.forall_mem_cons.mpr ⟨j_2 (List.mem_of_getElem? (i := 2) rfl),
  List.forall_mem_cons.mpr ⟨j_2 (List.mem_of_getElem? (i := 3) rfl),
  List.forall_mem_cons.mpr ⟨j_2 (List.mem_of_getElem? (i := 13) rfl),
  List.forall_mem_cons.mpr ⟨j_2 (List.mem_of_getElem? (i := 14) rfl),
  List.forall_mem_cons.mpr ⟨j_2 (List.mem_of_getElem? (i := 15) rfl),
  List.forall_mem_cons.mpr ⟨j_2 (List.mem_of_getElem? (i := 16) rfl),
  List.forall_mem_cons.mpr ⟨j_2 (List.mem_of_getElem? (i := 17) rfl),
  List.forall_mem_cons.mpr ⟨j_2 (List.mem_of_getElem? (i := 18) rfl),
  List.forall_mem_cons.mpr ⟨j_2 (List.mem_of_getElem? (i := 19) rfl),
  List.forall_mem_cons.mpr ⟨j_1 (List.mem_of_getElem? (i := 170) rfl),
  List.forall_mem_cons.mpr ⟨j_2 (List.mem_of_getElem? (i := 8) rfl),
  List.forall_mem_cons.mpr ⟨j_2 (List.mem_of_getElem? (i := 4) rfl), fun _ h => absurd h List.not_mem_nil⟩⟩⟩⟩⟩⟩⟩⟩⟩⟩⟩⟩⟩⟩⟩⟩⟩⟩⟩⟩⟩⟩⟩⟩
theorem i_r7 : ∀ w ∈ wsL_law_r7, w ∈ lw_tbl :=
  List.forall_mem_cons.mpr ⟨j_2 (List.mem_of_getElem? (i := 9) rfl),
  List.forall_mem_cons.mpr ⟨j_2 (List.mem_of_getElem? (i := 10) rfl),
  List.forall_mem_cons.mpr ⟨j_2 (List.mem_of_getElem? (i := 6) rfl),
  List.forall_mem_cons.mpr ⟨j_1 (List.mem_of_getElem? (i := 180) rfl),
  List.forall_mem_cons.mpr ⟨j_2 (List.mem_of_getElem? (i := 11) rfl),
  List.forall_mem_cons.mpr ⟨j_2 (List.mem_of_getElem? (i := 12) rfl),
  List.forall_mem_cons.mpr ⟨j_2 (List.mem_of_getElem? (i := 5) rfl),
  List.forall_mem_cons.mpr ⟨j_2 (List.mem_of_getElem? (i := 7) rfl),
  List.forall_mem_cons.mpr ⟨j_4 (List.mem_of_getElem? (i := 98) rfl),
  List.forall_mem_cons.mpr ⟨j_4 (List.mem_of_getElem? (i := 99) rfl),
  List.forall_mem_cons.mpr ⟨j_4 (List.mem_of_getElem? (i := 100) rfl),
  List.forall_mem_cons.mpr ⟨j_4 (List.mem_of_getElem? (i := 101) rfl),
  List.forall_mem_cons.mpr ⟨j_4 (List.mem_of_getElem? (i := 174) rfl),
  List.forall_mem_cons.mpr ⟨j_4 (List.mem_of_getElem? (i := 175) rfl),
  List.forall_mem_cons.mpr ⟨j_4 (List.mem_of_getElem? (i := 176) rfl),
  List.forall_mem_cons.mpr ⟨j_4 (List.mem_of_getElem? (i := 177) rfl),
  List.forall_mem_cons.mpr ⟨j_4 (List.mem_of_getElem? (i := 180) rfl),
  List.forall_mem_cons.mpr ⟨j_4 (List.mem_of_getElem? (i := 102) rfl),
  List.forall_mem_cons.mpr ⟨j_4 (List.mem_of_getElem? (i := 103) rfl),
  List.forall_mem_cons.mpr ⟨j_4 (List.mem_of_getElem? (i := 104) rfl),
  List.forall_mem_cons.mpr ⟨j_4 (List.mem_of_getElem? (i := 105) rfl),
  List.forall_mem_cons.mpr ⟨j_4 (List.mem_of_getElem? (i := 106) rfl),
  List.forall_mem_cons.mpr ⟨j_4 (List.mem_of_getElem? (i := 107) rfl),
  List.forall_mem_cons.mpr ⟨j_4 (List.mem_of_getElem? (i := 108) rfl), fun _ h => absurd h List.not_mem_nil⟩⟩⟩⟩⟩⟩⟩⟩⟩⟩⟩⟩⟩⟩⟩⟩⟩⟩⟩⟩⟩⟩⟩⟩
theorem i_r8 : ∀ w ∈ wsL_law_r8, w ∈ lw_tbl :=
  List.forall_mem_cons.mpr ⟨j_4 (List.mem_of_getElem? (i := 109) rfl),
  List.forall_mem_cons.mpr ⟨j_4 (List.mem_of_getElem? (i := 110) rfl),
  List.forall_mem_cons.mpr ⟨j_4 (List.mem_of_getElem? (i := 111) rfl),
  List.forall_mem_cons.mpr ⟨j_4 (List.mem_of_getElem? (i := 112) rfl),
  List.forall_mem_cons.mpr ⟨j_4 (List.mem_of_getElem? (i := 113) rfl),
  List.forall_mem_cons.mpr ⟨j_4 (List.mem_of_getElem? (i := 114) rfl),
  List.forall_mem_cons.mpr ⟨j_4 (List.mem_of_getElem? (i := 115) rfl),
  List.forall_mem_cons.mpr ⟨j_4 (List.mem_of_getElem? (i := 116) rfl),
  List.forall_mem_cons.mpr ⟨j_4 (List.mem_of_getElem? (i := 117) rfl),
  List.forall_mem_cons.mpr ⟨j_4 (List.mem_of_getElem? (i := 118) rfl),
  List.forall_mem_cons.mpr ⟨j_4 (List.mem_of_getElem? (i := 119) rfl),
  List.forall_mem_cons.mpr ⟨j_4 (List.mem_of_getElem? (i := 120) rfl),
  List.forall_mem_cons.mpr ⟨j_4 (List.mem_of_getElem? (i := 121) rfl),
  List.forall_mem_cons.mpr ⟨j_4 (List.mem_of_getElem? (i := 122) rfl),
  List.forall_mem_cons.mpr ⟨j_4 (List.mem_of_getElem? (i := 123) rfl),
  List.forall_mem_cons.mpr ⟨j_4 (List.mem_of_getElem? (i := 124) rfl),
  List.forall_mem_cons.mpr ⟨j_4 (List.mem_of_getElem? (i := 125) rfl),
  List.forall_mem_cons.mpr ⟨j_4 (List.mem_of_getElem? (i := 126) rfl),
  List.forall_mem_cons.mpr ⟨j_4 (List.mem_of_getElem? (i := 127) rfl),
  List.forall_mem_cons.mpr ⟨j_4 (List.mem_of_getElem? (i := 128) rfl),
  List.forall_mem_cons.mpr ⟨j_4 (List.mem_of_getElem? (i := 129) rfl),
  List.forall_mem_cons.mpr ⟨j_4 (List.mem_of_getElem? (i := 130) rfl),
  List.forall_mem_cons.mpr ⟨j_4 (List.mem_of_getElem? (i := 131) rfl),
  List.forall_mem_cons.mpr ⟨j_4 (List.mem_of_getElem? (i := 132) rfl), fun _ h => absurd h List.not_mem_nil⟩⟩⟩⟩⟩⟩⟩⟩⟩⟩⟩⟩⟩⟩⟩⟩⟩⟩⟩⟩⟩⟩⟩⟩
theorem i_r9 : ∀ w ∈ wsL_law_r9, w ∈ lw_tbl :=
  List.forall_mem_cons.mpr ⟨j_4 (List.mem_of_getElem? (i := 133) rfl),
  List.forall_mem_cons.mpr ⟨j_4 (List.mem_of_getElem? (i := 134) rfl),
  List.forall_mem_cons.mpr ⟨j_4 (List.mem_of_getElem? (i := 135) rfl),
  List.forall_mem_cons.mpr ⟨j_4 (List.mem_of_getElem? (i := 136) rfl),
  List.forall_mem_cons.mpr ⟨j_4 (List.mem_of_getElem? (i := 137) rfl),
  List.forall_mem_cons.mpr ⟨j_4 (List.mem_of_getElem? (i := 138) rfl),
  List.forall_mem_cons.mpr ⟨j_4 (List.mem_of_getElem? (i := 139) rfl),
  List.forall_mem_cons.mpr ⟨j_4 (List.mem_of_getElem? (i := 140) rfl),
  List.forall_mem_cons.mpr ⟨j_4 (List.mem_of_getElem? (i := 141) rfl),
  List.forall_mem_cons.mpr ⟨j_4 (List.mem_of_getElem? (i := 142) rfl),
  List.forall_mem_cons.mpr ⟨j_4 (List.mem_of_getElem? (i := 143) rfl),
  List.forall_mem_cons.mpr ⟨j_4 (List.mem_of_getElem? (i := 144) rfl),
  List.forall_mem_cons.mpr ⟨j_4 (List.mem_of_getElem? (i := 145) rfl),
  List.forall_mem_cons.mpr ⟨j_4 (List.mem_of_getElem? (i := 146) rfl),
  List.forall_mem_cons.mpr ⟨j_4 (List.mem_of_getElem? (i := 147) rfl),
  List.forall_mem_cons.mpr ⟨j_4 (List.mem_of_getElem? (i := 148) rfl),
  List.forall_mem_cons.mpr ⟨j_4 (List.mem_of_getElem? (i := 149) rfl),
  List.forall_mem_cons.mpr ⟨j_4 (List.mem_of_getElem? (i := 150) rfl),
  List.forall_mem_cons.mpr ⟨j_4 (List.mem_of_getElem? (i := 151) rfl),
  List.forall_mem_cons.mpr ⟨j_4 (List.mem_of_getElem? (i := 152) rfl),
  List.forall_mem_cons.mpr ⟨j_4 (List.mem_of_getElem? (i := 153) rfl),
  List.forall_mem_cons.mpr ⟨j_4 (List.mem_of_getElem? (i := 154) rfl),
  List.forall_mem_cons.mpr ⟨j_4 (List.mem_of_getElem? (i := 155) rfl),
  List.forall_mem_cons.mpr ⟨j_4 (List.mem_of_getElem? (i := 156) rfl), fun _ h => absurd h List.not_mem_nil⟩⟩⟩⟩⟩⟩⟩⟩⟩⟩⟩⟩⟩⟩⟩⟩⟩⟩⟩⟩⟩⟩⟩⟩
theorem i_r10 : ∀ w ∈ wsL_law_r10, w ∈ lw_tbl :=
  List.forall_mem_cons.mpr ⟨j_4 (List.mem_of_getElem? (i := 157) rfl),
  List.forall_mem_cons.mpr ⟨j_4 (List.mem_of_getElem? (i := 158) rfl),
  List.forall_mem_cons.mpr ⟨j_4 (List.mem_of_getElem? (i := 159) rfl),
  List.forall_mem_cons.mpr ⟨j_4 (List.mem_of_getElem? (i := 160) rfl),
  List.forall_mem_cons.mpr ⟨j_4 (List.mem_of_getElem? (i := 161) rfl),
  List.forall_mem_cons.mpr ⟨j_4 (List.mem_of_getElem? (i := 162) rfl),
  List.forall_mem_cons.mpr ⟨j_4 (List.mem_of_getElem? (i := 163) rfl),
  List.forall_mem_cons.mpr ⟨j_4 (List.mem_of_getElem? (i := 164) rfl),
  List.forall_mem_cons.mpr ⟨j_4 (List.mem_of_getElem? (i := 165) rfl),
  List.forall_mem_cons.mpr ⟨j_4 (List.mem_of_getElem? (i := 181) rfl),
  List.forall_mem_cons.mpr ⟨j_4 (List.mem_of_getElem? (i := 166) rfl),
  List.forall_mem_cons.mpr ⟨j_4 (List.mem_of_getElem? (i := 167) rfl),
  List.forall_mem_cons.mpr ⟨j_4 (List.mem_of_getElem? (i := 168) rfl),
  List.forall_mem_cons.mpr ⟨j_4 (List.mem_of_getElem? (i := 169) rfl),
  List.forall_mem_cons.mpr ⟨j_4 (List.mem_of_getElem? (i := 170) rfl),
  List.forall_mem_cons.mpr ⟨j_4 (List.mem_of_getElem? (i := 171) rfl),
  List.forall_mem_cons.mpr ⟨j_4 (List.mem_of_getElem? (i := 172) rfl),
  List.forall_mem_cons.mpr ⟨j_4 (List.mem_of_getElem? (i := 173) rfl),
  List.forall_mem_cons.mpr ⟨j_4 (List.mem_of_getElem? (i := 182) rfl),
  List.forall_mem_cons.mpr ⟨j_4 (List.mem_of_getElem? (i := 183) rfl),
  List.forall_mem_cons.mpr ⟨j_4 (List.mem_of_getElem? (i := 184) rfl),
  List.forall_mem_cons.mpr ⟨j_4 (List.mem_of_getElem? (i := 185) rfl),
  List.forall_mem_cons.mpr ⟨j_4 (List.mem_of_getElem? (i := 186) rfl),
  List.forall_mem_cons.mpr ⟨j_4 (List.mem_of_getElem? (i := 187) rfl), fun _ h => absurd h List.not_mem_nil⟩⟩⟩⟩⟩⟩⟩⟩⟩⟩⟩⟩⟩⟩⟩⟩⟩⟩⟩⟩⟩⟩⟩⟩
theorem i_r11 : ∀ w ∈ wsL_law_r11, w ∈ lw_tbl :=
  List.forall_mem_cons.mpr ⟨j_4 (List.mem_of_getElem? (i := 189) rfl),
  List.forall_mem_cons.mpr ⟨j_4 (List.mem_of_getElem? (i := 190) rfl),
  List.forall_mem_cons.mpr ⟨j_4 (List.mem_of_getElem? (i := 191) rfl),
  List.forall_mem_cons.mpr ⟨j_4 (List.mem_of_getElem? (i := 192) rfl),
  List.forall_mem_cons.mpr ⟨j_4 (List.mem_of_getElem? (i := 193) rfl),
  List.forall_mem_cons.mpr ⟨j_4 (List.mem_of_getElem? (i := 194) rfl),
  List.forall_mem_cons.mpr ⟨j_4 (List.mem_of_getElem? (i := 195) rfl),
  List.forall_mem_cons.mpr ⟨j_4 (List.mem_of_getElem? (i := 196) rfl),
  List.forall_mem_cons.mpr ⟨j_4 (List.mem_of_getElem? (i := 197) rfl),
  List.forall_mem_cons.mpr ⟨j_4 (List.mem_of_getElem? (i := 198) rfl),
  List.forall_mem_cons.mpr ⟨j_4 (List.mem_of_getElem? (i := 199) rfl),
  List.forall_mem_cons.mpr ⟨j_4 (List.mem_of_getElem? (i := 200) rfl),
  List.forall_mem_cons.mpr ⟨j_4 (List.mem_of_getElem? (i := 201) rfl),
  List.forall_mem_cons.mpr ⟨j_4 (List.mem_of_getElem? (i := 202) rfl),
  List.forall_mem_cons.mpr ⟨j_4 (List.mem_of_getElem? (i := 203) rfl),
  List.forall_mem_cons.mpr ⟨j_4 (List.mem_of_getElem? (i := 204) rfl),
  List.forall_mem_cons.mpr ⟨j_4 (List.mem_of_getElem? (i := 205) rfl),
  List.forall_mem_cons.mpr ⟨j_4 (List.mem_of_getElem? (i := 206) rfl),
  List.forall_mem_cons.mpr ⟨j_4 (List.mem_of_getElem? (i := 207) rfl),
  List.forall_mem_cons.mpr ⟨j_4 (List.mem_of_getElem? (i := 208) rfl),
  List.forall_mem_cons.mpr ⟨j_4 (List.mem_of_getElem? (i := 209) rfl),
  List.forall_mem_cons.mpr ⟨j_4 (List.mem_of_getElem? (i := 210) rfl),
  List.forall_mem_cons.mpr ⟨j_4 (List.mem_of_getElem? (i := 211) rfl),
  List.forall_mem_cons.mpr ⟨j_4 (List.mem_of_getElem? (i := 212) rfl), fun _ h => absurd h List.not_mem_nil⟩⟩⟩⟩⟩⟩⟩⟩⟩⟩⟩⟩⟩⟩⟩⟩⟩⟩⟩⟩⟩⟩⟩⟩
theorem i_r12 : ∀ w ∈ wsL_law_r12, w ∈ lw_tbl :=
  List.forall_mem_cons.mpr ⟨j_4 (List.mem_of_getElem? (i := 213) rfl),
  List.forall_mem_cons.mpr ⟨j_4 (List.mem_of_getElem? (i := 214) rfl),
  List.forall_mem_cons.mpr ⟨j_4 (List.mem_of_getElem? (i := 215) rfl),
  List.forall_mem_cons.mpr ⟨j_4 (List.mem_of_getElem? (i := 216) rfl),
  List.forall_mem_cons.mpr ⟨j_4 (List.mem_of_getElem? (i := 217) rfl),
  List.forall_mem_cons.mpr ⟨j_5 (List.mem_of_getElem? (i := 109) rfl),
  List.forall_mem_cons.mpr ⟨j_4 (List.mem_of_getElem? (i := 218) rfl),
  List.forall_mem_cons.mpr ⟨j_4 (List.mem_of_getElem? (i := 219) rfl),
  List.forall_mem_cons.mpr ⟨j_4 (List.mem_of_getElem? (i := 220) rfl),
  List.forall_mem_cons.mpr ⟨j_4 (List.mem_of_getElem? (i := 221) rfl),
  List.forall_mem_cons.mpr ⟨j_4 (List.mem_of_getElem? (i := 222) rfl),
  List.forall_mem_cons.mpr ⟨j_4 (List.mem_of_getElem? (i := 223) rfl),
  List.forall_mem_cons.mpr ⟨j_4 (List.mem_of_getElem? (i := 224) rfl),
  List.forall_mem_cons.mpr ⟨j_4 (List.mem_of_getElem? (i := 225) rfl),
  List.forall_mem_cons.mpr ⟨j_4 (List.mem_of_getElem? (i := 226) rfl),
  List.forall_mem_cons.mpr ⟨j_4 (List.mem_of_getElem? (i := 227) rfl),
  List.forall_mem_cons.mpr ⟨j_4 (List.mem_of_getElem? (i := 228) rfl),
  List.forall_mem_cons.mpr ⟨j_4 (List.mem_of_getElem? (i := 229) rfl),
  List.forall_mem_cons.mpr ⟨j_4 (List.mem_of_getElem? (i := 230) rfl),
  List.forall_mem_cons.mpr ⟨j_4 (List.mem_of_getElem? (i := 231) rfl),
  List.forall_mem_cons.mpr ⟨j_2 (List.mem_of_getElem? (i := 67) rfl),
  List.forall_mem_cons.mpr ⟨j_2 (List.mem_of_getElem? (i := 68) rfl),
  List.forall_mem_cons.mpr ⟨j_2 (List.mem_of_getElem? (i := 69) rfl),
  List.forall_mem_cons.mpr ⟨j_2 (List.mem_of_getElem? (i := 70) rfl), fun _ h => absurd h List.not_mem_nil⟩⟩⟩⟩⟩⟩⟩⟩⟩⟩⟩⟩⟩⟩⟩⟩⟩⟩⟩⟩⟩⟩⟩⟩
theorem i_r13 : ∀ w ∈ wsL_law_r13, w ∈ lw_tbl :=
  List.forall_mem_cons.mpr ⟨j_2 (List.mem_of_getElem? (i := 71) rfl),
  List.forall_mem_cons.mpr ⟨j_2 (List.mem_of_getElem? (i := 72) rfl),
  List.forall_mem_cons.mpr ⟨j_1 (List.mem_of_getElem? (i := 13) rfl),
  List.forall_mem_cons.mpr ⟨j_2 (List.mem_of_getElem? (i := 73) rfl),
  List.forall_mem_cons.mpr ⟨j_5 (List.mem_of_getElem? (i := 110) rfl),
  List.forall_mem_cons.mpr ⟨j_5 (List.mem_of_getElem? (i := 111) rfl),
  List.forall_mem_cons.mpr ⟨j_5 (List.mem_of_getElem? (i := 112) rfl),
  List.forall_mem_cons.mpr ⟨j_5 (List.mem_of_getElem? (i := 113) rfl),
  List.forall_mem_cons.mpr ⟨j_4 (List.mem_of_getElem? (i := 178) rfl),
  List.forall_mem_cons.mpr ⟨j_5 (List.mem_of_getElem? (i := 114) rfl),
  List.forall_mem_cons.mpr ⟨j_5 (List.mem_of_getElem? (i := 116) rfl),
  List.forall_mem_cons.mpr ⟨j_0 (List.mem_of_getElem? (i := 22) rfl),
  List.forall_mem_cons.mpr ⟨j_5 (List.mem_of_getElem? (i := 117) rfl),
  List.forall_mem_cons.mpr ⟨j_2 (List.mem_of_getElem? (i := 74) rfl),
  List.forall_mem_cons.mpr ⟨j_2 (List.mem_of_getElem? (i := 75) rfl),
  List.forall_mem_cons.mpr ⟨j_2 (List.mem_of_getElem? (i := 76) rfl),
  List.forall_mem_cons.mpr ⟨j_2 (List.mem_of_getElem? (i := 77) rfl),
  List.forall_mem_cons.mpr ⟨j_2 (List.mem_of_getElem? (i := 78) rfl),
  List.forall_mem_cons.mpr ⟨j_2 (List.mem_of_getElem? (i := 80) rfl),
  List.forall_mem_cons.mpr ⟨j_2 (List.mem_of_getElem? (i := 79) rfl),
  List.forall_mem_cons.mpr ⟨j_1 (List.mem_of_getElem? (i := 14) rfl),
  List.forall_mem_cons.mpr ⟨j_5 (List.mem_of_getElem? (i := 118) rfl),
  List.forall_mem_cons.mpr ⟨j_5 (List.mem_of_getElem? (i := 119) rfl),
  List.forall_mem_cons.mpr ⟨j_5 (List.mem_of_getElem? (i := 120) rfl), fun _ h => absurd h List.not_mem_nil⟩⟩⟩⟩⟩⟩⟩⟩⟩⟩⟩⟩⟩⟩⟩⟩⟩⟩⟩⟩⟩⟩⟩⟩
theorem i_r14 : ∀ w ∈ wsL_law_r14, w ∈ lw_tbl :=
  List.forall_mem_cons.mpr ⟨j_5 (List.mem_of_getElem? (i := 121) rfl),
  List.forall_mem_cons.mpr ⟨j_4 (List.mem_of_getElem? (i := 179) rfl),
  List.forall_mem_cons.mpr ⟨j_5 (List.mem_of_getElem? (i := 122) rfl),
  List.forall_mem_cons.mpr ⟨j_5 (List.mem_of_getElem? (i := 123) rfl),
  List.forall_mem_cons.mpr ⟨j_5 (List.mem_of_getElem? (i := 124) rfl),
  List.forall_mem_cons.mpr ⟨j_2 (List.mem_of_getElem? (i := 81) rfl),
  List.forall_mem_cons.mpr ⟨j_2 (List.mem_of_getElem? (i := 82) rfl),
  List.forall_mem_cons.mpr ⟨j_2 (List.mem_of_getElem? (i := 83) rfl),
  List.forall_mem_cons.mpr ⟨j_2 (List.mem_of_getElem? (i := 84) rfl),
  List.forall_mem_cons.mpr ⟨j_5 (List.mem_of_getElem? (i := 125) rfl),
  List.forall_mem_cons.mpr ⟨j_5 (List.mem_of_getElem? (i := 126) rfl),
  List.forall_mem_cons.mpr ⟨j_5 (List.mem_of_getElem? (i := 127) rfl),
  List.forall_mem_cons.mpr ⟨j_5 (List.mem_of_getElem? (i := 128) rfl),
  List.forall_mem_cons.mpr ⟨j_5 (List.mem_of_getElem? (i := 129) rfl),
  List.forall_mem_cons.mpr ⟨j_5 (List.mem_of_getElem? (i := 130) rfl),
  List.forall_mem_cons.mpr ⟨j_5 (List.mem_of_getElem? (i := 131) rfl),
  List.forall_mem_cons.mpr ⟨j_2 (List.mem_of_getElem? (i := 85) rfl),
  List.forall_mem_cons.mpr ⟨j_2 (List.mem_of_getElem? (i := 86) rfl),
  List.forall_mem_cons.mpr ⟨j_2 (List.mem_of_getElem? (i := 87) rfl),
  List.forall_mem_cons.mpr ⟨j_2 (List.mem_of_getElem? (i := 88) rfl),
  List.forall_mem_cons.mpr ⟨j_2 (List.mem_of_getElem? (i := 89) rfl),
  List.forall_mem_cons.mpr ⟨j_2 (List.mem_of_getElem? (i := 90) rfl),
  List.forall_mem_cons.mpr ⟨j_2 (List.mem_of_getElem? (i := 91) rfl),
  List.forall_mem_cons.mpr ⟨j_2 (List.mem_of_getElem? (i := 92) rfl), fun _ h => absurd h List.not_mem_nil⟩⟩⟩⟩⟩⟩⟩⟩⟩⟩⟩⟩⟩⟩⟩⟩⟩⟩⟩⟩⟩⟩⟩⟩
theorem i_r15 : ∀ w ∈ wsL_law_r15, w ∈ lw_tbl :=
  List.forall_mem_cons.mpr ⟨j_2 (List.mem_of_getElem? (i := 94) rfl),
  List.forall_mem_cons.mpr ⟨j_0 (List.mem_of_getElem? (i := 0) rfl),
  List.forall_mem_cons.mpr ⟨j_2 (List.mem_of_getElem? (i := 95) rfl),
  List.forall_mem_cons.mpr ⟨j_2 (List.mem_of_getElem? (i := 96) rfl),
  List.forall_mem_cons.mpr ⟨j_2 (List.mem_of_getElem? (i := 98) rfl),
  List.forall_mem_cons.mpr ⟨j_0 (List.mem_of_getElem? (i := 1) rfl),
  List.forall_mem_cons.mpr ⟨j_2 (List.mem_of_getElem? (i := 99) rfl),
  List.forall_mem_cons.mpr ⟨j_5 (List.mem_of_getElem? (i := 132) rfl),
  List.forall_mem_cons.mpr ⟨j_5 (List.mem_of_getElem? (i := 133) rfl),
  List.forall_mem_cons.mpr ⟨j_5 (List.mem_of_getElem? (i := 134) rfl),
  List.forall_mem_cons.mpr ⟨j_5 (List.mem_of_getElem? (i := 135) rfl),
  List.forall_mem_cons.mpr ⟨j_5 (List.mem_of_getElem? (i := 136) rfl),
  List.forall_mem_cons.mpr ⟨j_5 (List.mem_of_getElem? (i := 137) rfl),
  List.forall_mem_cons.mpr ⟨j_5 (List.mem_of_getElem? (i := 138) rfl),
  List.forall_mem_cons.mpr ⟨j_5 (List.mem_of_getElem? (i := 139) rfl),
  List.forall_mem_cons.mpr ⟨j_5 (List.mem_of_getElem? (i := 141) rfl),
  List.forall_mem_cons.mpr ⟨j_0 (List.mem_of_getElem? (i := 23) rfl),
  List.forall_mem_cons.mpr ⟨j_5 (List.mem_of_getElem? (i := 142) rfl),
  List.forall_mem_cons.mpr ⟨j_2 (List.mem_of_getElem? (i := 100) rfl),
  List.forall_mem_cons.mpr ⟨j_2 (List.mem_of_getElem? (i := 101) rfl),
  List.forall_mem_cons.mpr ⟨j_2 (List.mem_of_getElem? (i := 102) rfl),
  List.forall_mem_cons.mpr ⟨j_2 (List.mem_of_getElem? (i := 103) rfl),
  List.forall_mem_cons.mpr ⟨j_5 (List.mem_of_getElem? (i := 143) rfl),
  List.forall_mem_cons.mpr ⟨j_5 (List.mem_of_getElem? (i := 144) rfl), fun _ h => absurd h List.not_mem_nil⟩⟩⟩⟩⟩⟩⟩⟩⟩⟩⟩⟩⟩⟩⟩⟩⟩⟩⟩⟩⟩⟩⟩⟩
theorem i_r16 : ∀ w ∈ wsL_law_r16, w ∈ lw_tbl :=
  List.forall_mem_cons.mpr ⟨j_5 (List.mem_of_getElem? (i := 145) rfl),
  List.forall_mem_cons.mpr ⟨j_5 (List.mem_of_getElem? (i := 146) rfl),
  List.forall_mem_cons.mpr ⟨j_2 (List.mem_of_getElem? (i := 104) rfl),
  List.forall_mem_cons.mpr ⟨j_2 (List.mem_of_getElem? (i := 105) rfl),
  List.forall_mem_cons.mpr ⟨j_2 (List.mem_of_getElem? (i := 106) rfl),
  List.forall_mem_cons.mpr ⟨j_2 (List.mem_of_getElem? (i := 107) rfl),
  List.forall_mem_cons.mpr ⟨j_1 (List.mem_of_getElem? (i := 171) rfl),
  List.forall_mem_cons.mpr ⟨j_2 (List.mem_of_getElem? (i := 108) rfl),
  List.forall_mem_cons.mpr ⟨j_2 (List.mem_of_getElem? (i := 109) rfl),
  List.forall_mem_cons.mpr ⟨j_2 (List.mem_of_getElem? (i := 110) rfl),
  List.forall_mem_cons.mpr ⟨j_2 (List.mem_of_getElem? (i := 111) rfl),
  List.forall_mem_cons.mpr ⟨j_2 (List.mem_of_getElem? (i := 112) rfl),
  List.forall_mem_cons.mpr ⟨j_2 (List.mem_of_getElem? (i := 114) rfl),
  List.forall_mem_cons.mpr ⟨j_2 (List.mem_of_getElem? (i := 115) rfl),
  List.forall_mem_cons.mpr ⟨j_2 (List.mem_of_getElem? (i := 116) rfl),
  List.forall_mem_cons.mpr ⟨j_2 (List.mem_of_getElem? (i := 117) rfl),
  List.forall_mem_cons.mpr ⟨j_2 (List.mem_of_getElem? (i := 118) rfl),
  List.forall_mem_cons.mpr ⟨j_2 (List.mem_of_getElem? (i := 120) rfl),
  List.forall_mem_cons.mpr ⟨j_0 (List.mem_of_getElem? (i := 2) rfl),
  List.forall_mem_cons.mpr ⟨j_2 (List.mem_of_getElem? (i := 121) rfl),
  List.forall_mem_cons.mpr ⟨j_2 (List.mem_of_getElem? (i := 122) rfl),
  List.forall_mem_cons.mpr ⟨j_2 (List.mem_of_getElem? (i := 123) rfl),
  List.forall_mem_cons.mpr ⟨j_2 (List.mem_of_getElem? (i := 125) rfl),
  List.forall_mem_cons.mpr ⟨j_0 (List.mem_of_getElem? (i := 3) rfl), fun _ h => absurd h List.not_mem_nil⟩⟩⟩⟩⟩⟩⟩⟩⟩⟩⟩⟩⟩⟩⟩⟩⟩⟩⟩⟩⟩⟩⟩⟩
theorem i_r17 : ∀ w ∈ wsL_law_r17, w ∈ lw_tbl :=
  List.forall_mem_cons.mpr ⟨j_2 (List.mem_of_getElem? (i := 126) rfl),
  List.forall_mem_cons.mpr ⟨j_2 (List.mem_of_getElem? (i := 127) rfl),
  List.forall_mem_cons.mpr ⟨j_2 (List.mem_of_getElem? (i := 129) rfl),
  List.forall_mem_cons.mpr ⟨j_2 (List.mem_of_getElem? (i := 130) rfl),
  List.forall_mem_cons.mpr ⟨j_2 (List.mem_of_getElem? (i := 131) rfl),
  List.forall_mem_cons.mpr ⟨j_2 (List.mem_of_getElem? (i := 132) rfl),
  List.forall_mem_cons.mpr ⟨j_2 (List.mem_of_getElem? (i := 133) rfl),
  List.forall_mem_cons.mpr ⟨j_2 (List.mem_of_getElem? (i := 134) rfl),
  List.forall_mem_cons.mpr ⟨j_2 (List.mem_of_getElem? (i := 135) rfl),
  List.forall_mem_cons.mpr ⟨j_2 (List.mem_of_getElem? (i := 137) rfl),
  List.forall_mem_cons.mpr ⟨j_0 (List.mem_of_getElem? (i := 4) rfl),
  List.forall_mem_cons.mpr ⟨j_2 (List.mem_of_getElem? (i := 138) rfl),
  List.forall_mem_cons.mpr ⟨j_2 (List.mem_of_getElem? (i := 139) rfl),
  List.forall_mem_cons.mpr ⟨j_2 (List.mem_of_getElem? (i := 140) rfl),
  List.forall_mem_cons.mpr ⟨j_2 (List.mem_of_getElem? (i := 141) rfl),
  List.forall_mem_cons.mpr ⟨j_2 (List.mem_of_getElem? (i := 142) rfl),
  List.forall_mem_cons.mpr ⟨j_2 (List.mem_of_getElem? (i := 143) rfl),
  List.forall_mem_cons.mpr ⟨j_2 (List.mem_of_getElem? (i := 144) rfl),
  List.forall_mem_cons.mpr ⟨j_2 (List.mem_of_getElem? (i := 145) rfl),
  List.forall_mem_cons.mpr ⟨j_2 (List.mem_of_getElem? (i := 147) rfl),
  List.forall_mem_cons.mpr ⟨j_0 (List.mem_of_getElem? (i := 5) rfl),
  List.forall_mem_cons.mpr ⟨j_2 (List.mem_of_getElem? (i := 148) rfl),
  List.forall_mem_cons.mpr ⟨j_2 (List.mem_of_getElem? (i := 165) rfl),
  List.forall_mem_cons.mpr ⟨j_2 (List.mem_of_getElem? (i := 149) rfl), fun _ h => absurd h List.not_mem_nil⟩⟩⟩⟩⟩⟩⟩⟩⟩⟩⟩⟩⟩⟩⟩⟩⟩⟩⟩⟩⟩⟩⟩⟩
theorem i_r18 : ∀ w ∈ wsL_law_r18, w ∈ lw_tbl :=
  List.forall_mem_cons.mpr ⟨j_2 (List.mem_of_getElem? (i := 150) rfl),
  List.forall_mem_cons.mpr ⟨j_2 (List.mem_of_getElem? (i := 151) rfl),
  List.forall_mem_cons.mpr ⟨j_2 (List.mem_of_getElem? (i := 152) rfl),
  List.forall_mem_cons.mpr ⟨j_2 (List.mem_of_getElem? (i := 153) rfl),
  List.forall_mem_cons.mpr ⟨j_2 (List.mem_of_getElem? (i := 154) rfl),
  List.forall_mem_cons.mpr ⟨j_2 (List.mem_of_getElem? (i := 155) rfl),
  List.forall_mem_cons.mpr ⟨j_2 (List.mem_of_getElem? (i := 156) rfl),
  List.forall_mem_cons.mpr ⟨j_2 (List.mem_of_getElem? (i := 157) rfl),
  List.forall_mem_cons.mpr ⟨j_2 (List.mem_of_getElem? (i := 158) rfl),
  List.forall_mem_cons.mpr ⟨j_2 (List.mem_of_getElem? (i := 159) rfl),
  List.forall_mem_cons.mpr ⟨j_2 (List.mem_of_getElem? (i := 160) rfl),
  List.forall_mem_cons.mpr ⟨j_2 (List.mem_of_getElem? (i := 161) rfl),
  List.forall_mem_cons.mpr ⟨j_2 (List.mem_of_getElem? (i := 162) rfl),
  List.forall_mem_cons.mpr ⟨j_2 (List.mem_of_getElem? (i := 163) rfl),
  List.forall_mem_cons.mpr ⟨j_2 (List.mem_of_getElem? (i := 164) rfl),
  List.forall_mem_cons.mpr ⟨j_2 (List.mem_of_getElem? (i := 166) rfl),
  List.forall_mem_cons.mpr ⟨j_2 (List.mem_of_getElem? (i := 167) rfl),
  List.forall_mem_cons.mpr ⟨j_2 (List.mem_of_getElem? (i := 168) rfl),
  List.forall_mem_cons.mpr ⟨j_2 (List.mem_of_getElem? (i := 169) rfl),
  List.forall_mem_cons.mpr ⟨j_2 (List.mem_of_getElem? (i := 170) rfl),
  List.forall_mem_cons.mpr ⟨j_2 (List.mem_of_getElem? (i := 171) rfl),
  List.forall_mem_cons.mpr ⟨j_2 (List.mem_of_getElem? (i := 172) rfl),
  List.forall_mem_cons.mpr ⟨j_2 (List.mem_of_getElem? (i := 174) rfl),
  List.forall_mem_cons.mpr ⟨j_0 (List.mem_of_getElem? (i := 6) rfl), fun _ h => absurd h List.not_mem_nil⟩⟩⟩⟩⟩⟩⟩⟩⟩⟩⟩⟩⟩⟩⟩⟩⟩⟩⟩⟩⟩⟩⟩⟩
theorem i_r19 : ∀ w ∈ wsL_law_r19, w ∈ lw_tbl :=
  List.forall_mem_cons.mpr ⟨j_2 (List.mem_of_getElem? (i := 175) rfl),
  List.forall_mem_cons.mpr ⟨j_2 (List.mem_of_getElem? (i := 176) rfl),
  List.forall_mem_cons.mpr ⟨j_2 (List.mem_of_getElem? (i := 177) rfl),
  List.forall_mem_cons.mpr ⟨j_2 (List.mem_of_getElem? (i := 178) rfl),
  List.forall_mem_cons.mpr ⟨j_2 (List.mem_of_getElem? (i := 179) rfl),
  List.forall_mem_cons.mpr ⟨j_2 (List.mem_of_getElem? (i := 180) rfl),
  List.forall_mem_cons.mpr ⟨j_2 (List.mem_of_getElem? (i := 181) rfl),
  List.forall_mem_cons.mpr ⟨j_2 (List.mem_of_getElem? (i := 182) rfl),
  List.forall_mem_cons.mpr ⟨j_2 (List.mem_of_getElem? (i := 184) rfl),
  List.forall_mem_cons.mpr ⟨j_0 (List.mem_of_getElem? (i := 7) rfl),
  List.forall_mem_cons.mpr ⟨j_2 (List.mem_of_getElem? (i := 185) rfl),
  List.forall_mem_cons.mpr ⟨j_2 (List.mem_of_getElem? (i := 186) rfl),
  List.forall_mem_cons.mpr ⟨j_2 (List.mem_of_getElem? (i := 188) rfl),
  List.forall_mem_cons.mpr ⟨j_0 (List.mem_of_getElem? (i := 8) rfl),
  List.forall_mem_cons.mpr ⟨j_2 (List.mem_of_getElem? (i := 189) rfl),
  List.forall_mem_cons.mpr ⟨j_2 (List.mem_of_getElem? (i := 190) rfl),
  List.forall_mem_cons.mpr ⟨j_5 (List.mem_of_getElem? (i := 147) rfl),
  List.forall_mem_cons.mpr ⟨j_5 (List.mem_of_getElem? (i := 148) rfl),
  List.forall_mem_cons.mpr ⟨j_5 (List.mem_of_getElem? (i := 149) rfl),
  List.forall_mem_cons.mpr ⟨j_5 (List.mem_of_getElem? (i := 150) rfl),
  List.forall_mem_cons.mpr ⟨j_5 (List.mem_of_getElem? (i := 151) rfl),
  List.forall_mem_cons.mpr ⟨j_5 (List.mem_of_getElem? (i := 153) rfl),
  List.forall_mem_cons.mpr ⟨j_0 (List.mem_of_getElem? (i := 24) rfl),
  List.forall_mem_cons.mpr ⟨j_5 (List.mem_of_getElem? (i := 154) rfl), fun _ h => absurd h List.not_mem_nil⟩⟩⟩⟩⟩⟩⟩⟩⟩⟩⟩⟩⟩⟩⟩⟩⟩⟩⟩⟩⟩⟩⟩⟩
theorem i_r20 : ∀ w ∈ wsL_law_r20, w ∈ lw_tbl :=
  List.forall_mem_cons.mpr ⟨j_5 (List.mem_of_getElem? (i := 155) rfl),
  List.forall_mem_cons.mpr ⟨j_5 (List.mem_of_getElem? (i := 157) rfl),
  List.forall_mem_cons.mpr ⟨j_0 (List.mem_of_getElem? (i := 25) rfl),
  List.forall_mem_cons.mpr ⟨j_5 (List.mem_of_getElem? (i := 158) rfl),
  List.forall_mem_cons.mpr ⟨j_5 (List.mem_of_getElem? (i := 159) rfl),
  List.forall_mem_cons.mpr ⟨j_5 (List.mem_of_getElem? (i := 160) rfl),
  List.forall_mem_cons.mpr ⟨j_5 (List.mem_of_getElem? (i := 164) rfl),
  List.forall_mem_cons.mpr ⟨j_5 (List.mem_of_getElem? (i := 161) rfl),
  List.forall_mem_cons.mpr ⟨j_5 (List.mem_of_getElem? (i := 162) rfl),
  List.forall_mem_cons.mpr ⟨j_5 (List.mem_of_getElem? (i := 163) rfl),
  List.forall_mem_cons.mpr ⟨j_5 (List.mem_of_getElem? (i := 165) rfl),
  List.forall_mem_cons.mpr ⟨j_5 (List.mem_of_getElem? (i := 166) rfl),
  List.forall_mem_cons.mpr ⟨j_5 (List.mem_of_getElem? (i := 167) rfl),
  List.forall_mem_cons.mpr ⟨j_5 (List.mem_of_getElem? (i := 168) rfl),
  List.forall_mem_cons.mpr ⟨j_5 (List.mem_of_getElem? (i := 169) rfl),
  List.forall_mem_cons.mpr ⟨j_5 (List.mem_of_getElem? (i := 170) rfl),
  List.forall_mem_cons.mpr ⟨j_5 (List.mem_of_getElem? (i := 171) rfl),
  List.forall_mem_cons.mpr ⟨j_5 (List.mem_of_getElem? (i := 172) rfl),
  List.forall_mem_cons.mpr ⟨j_5 (List.mem_of_getElem? (i := 173) rfl),
  List.forall_mem_cons.mpr ⟨j_5 (List.mem_of_getElem? (i := 174) rfl),
  List.forall_mem_cons.mpr ⟨j_5 (List.mem_of_getElem? (i := 176) rfl),
  List.forall_mem_cons.mpr ⟨j_0 (List.mem_of_getElem? (i := 26) rfl),
  List.forall_mem_cons.mpr ⟨j_5 (List.mem_of_getElem? (i := 177) rfl),
  List.forall_mem_cons.mpr ⟨j_5 (List.mem_of_getElem? (i := 178) rfl), fun _ h => absurd h List.not_mem_nil⟩⟩⟩⟩⟩⟩⟩⟩⟩⟩⟩⟩⟩⟩⟩⟩⟩⟩⟩⟩⟩⟩⟩⟩
theorem i_r21 : ∀ w ∈ wsL_law_r21, w ∈ lw_tbl :=
  List.forall_mem_cons.mpr ⟨j_5 (List.mem_of_getElem? (i := 179) rfl),
  List.forall_mem_cons.mpr ⟨j_5 (List.mem_of_getElem? (i := 180) rfl),
  List.forall_mem_cons.mpr ⟨j_5 (List.mem_of_getElem? (i := 181) rfl),
  List.forall_mem_cons.mpr ⟨j_5 (List.mem_of_getElem? (i := 182) rfl),
  List.forall_mem_cons.mpr ⟨j_5 (List.mem_of_getElem? (i := 183) rfl),
  List.forall_mem_cons.mpr ⟨j_5 (List.mem_of_getElem? (i := 185) rfl),
  List.forall_mem_cons.mpr ⟨j_0 (List.mem_of_getElem? (i := 27) rfl),
  List.forall_mem_cons.mpr ⟨j_5 (List.mem_of_getElem? (i := 186) rfl),
  List.forall_mem_cons.mpr ⟨j_5 (List.mem_of_getElem? (i := 187) rfl),
  List.forall_mem_cons.mpr ⟨j_5 (List.mem_of_getElem? (i := 189) rfl),
  List.forall_mem_cons.mpr ⟨j_0 (List.mem_of_getElem? (i := 28) rfl),
  List.forall_mem_cons.mpr ⟨j_5 (List.mem_of_getElem? (i := 190) rfl),
  List.forall_mem_cons.mpr ⟨j_5 (List.mem_of_getElem? (i := 191) rfl),
  List.forall_mem_cons.mpr ⟨j_5 (List.mem_of_getElem? (i := 192) rfl),
  List.forall_mem_cons.mpr ⟨j_5 (List.mem_of_getElem? (i := 193) rfl),
  List.forall_mem_cons.mpr ⟨j_5 (List.mem_of_getElem? (i := 195) rfl),
  List.forall_mem_cons.mpr ⟨j_0 (List.mem_of_getElem? (i := 29) rfl),
  List.forall_mem_cons.mpr ⟨j_5 (List.mem_of_getElem? (i := 196) rfl),
  List.forall_mem_cons.mpr ⟨j_2 (List.mem_of_getElem? (i := 191) rfl),
  List.forall_mem_cons.mpr ⟨j_2 (List.mem_of_getElem? (i := 192) rfl),
  List.forall_mem_cons.mpr ⟨j_2 (List.mem_of_getElem? (i := 193) rfl),
  List.forall_mem_cons.mpr ⟨j_2 (List.mem_of_getElem? (i := 194) rfl),
  List.forall_mem_cons.mpr ⟨j_1 (List.mem_of_getElem? (i := 174) rfl),
  List.forall_mem_cons.mpr ⟨j_2 (List.mem_of_getElem? (i := 195) rfl), fun _ h => absurd h List.not_mem_nil⟩⟩⟩⟩⟩⟩⟩⟩⟩⟩⟩⟩⟩⟩⟩⟩⟩⟩⟩⟩⟩⟩⟩⟩
theorem i_r22 : ∀ w ∈ wsL_law_r22, w ∈ lw_tbl :=
  List.forall_mem_cons.mpr ⟨j_2 (List.mem_of_getElem? (i := 196) rfl),
  List.forall_mem_cons.mpr ⟨j_2 (List.mem_of_getElem? (i := 197) rfl),
  List.forall_mem_cons.mpr ⟨j_2 (List.mem_of_getElem? (i := 198) rfl),
  List.forall_mem_cons.mpr ⟨j_2 (List.mem_of_getElem? (i := 199) rfl),
  List.forall_mem_cons.mpr ⟨j_2 (List.mem_of_getElem? (i := 201) rfl),
  List.forall_mem_cons.mpr ⟨j_2 (List.mem_of_getElem? (i := 202) rfl),
  List.forall_mem_cons.mpr ⟨j_2 (List.mem_of_getElem? (i := 203) rfl),
  List.forall_mem_cons.mpr ⟨j_2 (List.mem_of_getElem? (i := 204) rfl),
  List.forall_mem_cons.mpr ⟨j_2 (List.mem_of_getElem? (i := 205) rfl),
  List.forall_mem_cons.mpr ⟨j_2 (List.mem_of_getElem? (i := 206) rfl),
  List.forall_mem_cons.mpr ⟨j_2 (List.mem_of_getElem? (i := 208) rfl),
  List.forall_mem_cons.mpr ⟨j_0 (List.mem_of_getElem? (i := 9) rfl),
  List.forall_mem_cons.mpr ⟨j_2 (List.mem_of_getElem? (i := 209) rfl),
  List.forall_mem_cons.mpr ⟨j_2 (List.mem_of_getElem? (i := 210) rfl),
  List.forall_mem_cons.mpr ⟨j_2 (List.mem_of_getElem? (i := 211) rfl),
  List.forall_mem_cons.mpr ⟨j_2 (List.mem_of_getElem? (i := 212) rfl),
  List.forall_mem_cons.mpr ⟨j_2 (List.mem_of_getElem? (i := 213) rfl),
  List.forall_mem_cons.mpr ⟨j_2 (List.mem_of_getElem? (i := 214) rfl),
  List.forall_mem_cons.mpr ⟨j_1 (List.mem_of_getElem? (i := 15) rfl),
  List.forall_mem_cons.mpr ⟨j_2 (List.mem_of_getElem? (i := 215) rfl),
  List.forall_mem_cons.mpr ⟨j_2 (List.mem_of_getElem? (i := 216) rfl),
  List.forall_mem_cons.mpr ⟨j_2 (List.mem_of_getElem? (i := 218) rfl),
  List.forall_mem_cons.mpr ⟨j_0 (List.mem_of_getElem? (i := 10) rfl),
  List.forall_mem_cons.mpr ⟨j_2 (List.mem_of_getElem? (i := 219) rfl), fun _ h => absurd h List.not_mem_nil⟩⟩⟩⟩⟩⟩⟩⟩⟩⟩⟩⟩⟩⟩⟩⟩⟩⟩⟩⟩⟩⟩⟩⟩
theorem i_r23 : ∀ w ∈ wsL_law_r23, w ∈ lw_tbl :=
  List.forall_mem_cons.mpr ⟨j_2 (List.mem_of_getElem? (i := 220) rfl),
  List.forall_mem_cons.mpr ⟨j_2 (List.mem_of_getElem? (i := 222) rfl),
  List.forall_mem_cons.mpr ⟨j_2 (List.mem_of_getElem? (i := 223) rfl),
  List.forall_mem_cons.mpr ⟨j_2 (List.mem_of_getElem? (i := 224) rfl),
  List.forall_mem_cons.mpr ⟨j_2 (List.mem_of_getElem? (i := 225) rfl),
  List.forall_mem_cons.mpr ⟨j_2 (List.mem_of_getElem? (i := 230) rfl),
  List.forall_mem_cons.mpr ⟨j_2 (List.mem_of_getElem? (i := 226) rfl),
  List.forall_mem_cons.mpr ⟨j_2 (List.mem_of_getElem? (i := 228) rfl),
  List.forall_mem_cons.mpr ⟨j_0 (List.mem_of_getElem? (i := 11) rfl),
  List.forall_mem_cons.mpr ⟨j_2 (List.mem_of_getElem? (i := 229) rfl),
  List.forall_mem_cons.mpr ⟨j_2 (List.mem_of_getElem? (i := 231) rfl),
  List.forall_mem_cons.mpr ⟨j_5 (List.mem_of_getElem? (i := 197) rfl),
  List.forall_mem_cons.mpr ⟨j_5 (List.mem_of_getElem? (i := 198) rfl),
  List.forall_mem_cons.mpr ⟨j_5 (List.mem_of_getElem? (i := 199) rfl),
  List.forall_mem_cons.mpr ⟨j_5 (List.mem_of_getElem? (i := 200) rfl),
  List.forall_mem_cons.mpr ⟨j_5 (List.mem_of_getElem? (i := 201) rfl),
  List.forall_mem_cons.mpr ⟨j_5 (List.mem_of_getElem? (i := 203) rfl),
  List.forall_mem_cons.mpr ⟨j_0 (List.mem_of_getElem? (i := 30) rfl),
  List.forall_mem_cons.mpr ⟨j_5 (List.mem_of_getElem? (i := 204) rfl),
  List.forall_mem_cons.mpr ⟨j_4 (List.mem_of_getElem? (i := 188) rfl),
  List.forall_mem_cons.mpr ⟨j_5 (List.mem_of_getElem? (i := 205) rfl),
  List.forall_mem_cons.mpr ⟨j_5 (List.mem_of_getElem? (i := 207) rfl),
  List.forall_mem_cons.mpr ⟨j_0 (List.mem_of_getElem? (i := 31) rfl),
  List.forall_mem_cons.mpr ⟨j_5 (List.mem_of_getElem? (i := 208) rfl), fun _ h => absurd h List.not_mem_nil⟩⟩⟩⟩⟩⟩⟩⟩⟩⟩⟩⟩⟩⟩⟩⟩⟩⟩⟩⟩⟩⟩⟩⟩
theorem i_r24 : ∀ w ∈ wsL_law_r24, w ∈ lw_tbl :=
  List.forall_mem_cons.mpr ⟨j_5 (List.mem_of_getElem? (i := 209) rfl),
  List.forall_mem_cons.mpr ⟨j_5 (List.mem_of_getElem? (i := 211) rfl),
  List.forall_mem_cons.mpr ⟨j_0 (List.mem_of_getElem? (i := 32) rfl),
  List.forall_mem_cons.mpr ⟨j_5 (List.mem_of_getElem? (i := 212) rfl),
  List.forall_mem_cons.mpr ⟨j_5 (List.mem_of_getElem? (i := 213) rfl),
  List.forall_mem_cons.mpr ⟨j_5 (List.mem_of_getElem? (i := 215) rfl),
  List.forall_mem_cons.mpr ⟨j_0 (List.mem_of_getElem? (i := 33) rfl),
  List.forall_mem_cons.mpr ⟨j_5 (List.mem_of_getElem? (i := 216) rfl),
  List.forall_mem_cons.mpr ⟨j_5 (List.mem_of_getElem? (i := 217) rfl),
  List.forall_mem_cons.mpr ⟨j_5 (List.mem_of_getElem? (i := 219) rfl),
  List.forall_mem_cons.mpr ⟨j_0 (List.mem_of_getElem? (i := 34) rfl),
  List.forall_mem_cons.mpr ⟨j_5 (List.mem_of_getElem? (i := 220) rfl),
  List.forall_mem_cons.mpr ⟨j_5 (List.mem_of_getElem? (i := 221) rfl),
  List.forall_mem_cons.mpr ⟨j_5 (List.mem_of_getElem? (i := 222) rfl),
  List.forall_mem_cons.mpr ⟨j_5 (List.mem_of_getElem? (i := 223) rfl),
  List.forall_mem_cons.mpr ⟨j_2 (List.mem_of_getElem? (i := 232) rfl),
  List.forall_mem_cons.mpr ⟨j_2 (List.mem_of_getElem? (i := 233) rfl),
  List.forall_mem_cons.mpr ⟨j_2 (List.mem_of_getElem? (i := 234) rfl),
  List.forall_mem_cons.mpr ⟨j_2 (List.mem_of_getElem? (i := 235) rfl),
  List.forall_mem_cons.mpr ⟨j_1 (List.mem_of_getElem? (i := 177) rfl),
  List.forall_mem_cons.mpr ⟨j_2 (List.mem_of_getElem? (i := 236) rfl),
  List.forall_mem_cons.mpr ⟨j_2 (List.mem_of_getElem? (i := 237) rfl),
  List.forall_mem_cons.mpr ⟨j_2 (List.mem_of_getElem? (i := 238) rfl),
  List.forall_mem_cons.mpr ⟨j_2 (List.mem_of_getElem? (i := 239) rfl), fun _ h => absurd h List.not_mem_nil⟩⟩⟩⟩⟩⟩⟩⟩⟩⟩⟩⟩⟩⟩⟩⟩⟩⟩⟩⟩⟩⟩⟩⟩
theorem i_r25 : ∀ w ∈ wsL_law_r25, w ∈ lw_tbl :=
  List.forall_mem_cons.mpr ⟨j_3 (List.mem_of_getElem? (i := 0) rfl),
  List.forall_mem_cons.mpr ⟨j_3 (List.mem_of_getElem? (i := 1) rfl),
  List.forall_mem_cons.mpr ⟨j_3 (List.mem_of_getElem? (i := 2) rfl),
  List.forall_mem_cons.mpr ⟨j_3 (List.mem_of_getElem? (i := 3) rfl),
  List.forall_mem_cons.mpr ⟨j_3 (List.mem_of_getElem? (i := 4) rfl),
  List.forall_mem_cons.mpr ⟨j_3 (List.mem_of_getElem? (i := 5) rfl),
  List.forall_mem_cons.mpr ⟨j_3 (List.mem_of_getElem? (i := 6) rfl),
  List.forall_mem_cons.mpr ⟨j_3 (List.mem_of_getElem? (i := 7) rfl),
  List.forall_mem_cons.mpr ⟨j_3 (List.mem_of_getElem? (i := 8) rfl),
  List.forall_mem_cons.mpr ⟨j_3 (List.mem_of_getElem? (i := 9) rfl),
  List.forall_mem_cons.mpr ⟨j_3 (List.mem_of_getElem? (i := 10) rfl),
  List.forall_mem_cons.mpr ⟨j_5 (List.mem_of_getElem? (i := 224) rfl),
  List.forall_mem_cons.mpr ⟨j_5 (List.mem_of_getElem? (i := 225) rfl),
  List.forall_mem_cons.mpr ⟨j_5 (List.mem_of_getElem? (i := 226) rfl),
  List.forall_mem_cons.mpr ⟨j_5 (List.mem_of_getElem? (i := 227) rfl),
  List.forall_mem_cons.mpr ⟨j_5 (List.mem_of_getElem? (i := 228) rfl),
  List.forall_mem_cons.mpr ⟨j_5 (List.mem_of_getElem? (i := 230) rfl),
  List.forall_mem_cons.mpr ⟨j_0 (List.mem_of_getElem? (i := 35) rfl),
  List.forall_mem_cons.mpr ⟨j_5 (List.mem_of_getElem? (i := 231) rfl),
  List.forall_mem_cons.mpr ⟨j_3 (List.mem_of_getElem? (i := 11) rfl),
  List.forall_mem_cons.mpr ⟨j_3 (List.mem_of_getElem? (i := 12) rfl),
  List.forall_mem_cons.mpr ⟨j_3 (List.mem_of_getElem? (i := 13) rfl),
  List.forall_mem_cons.mpr ⟨j_3 (List.mem_of_getElem? (i := 14) rfl),
  List.forall_mem_cons.mpr ⟨j_1 (List.mem_of_getElem? (i := 181) rfl), fun _ h => absurd h List.not_mem_nil⟩⟩⟩⟩⟩⟩⟩⟩⟩⟩⟩⟩⟩⟩⟩⟩⟩⟩⟩⟩⟩⟩⟩⟩
theorem i_r26 : ∀ w ∈ wsL_law_r26, w ∈ lw_tbl :=
  List.forall_mem_cons.mpr ⟨j_3 (List.mem_of_getElem? (i := 15) rfl),
  List.forall_mem_cons.mpr ⟨j_3 (List.mem_of_getElem? (i := 17) rfl),
  List.forall_mem_cons.mpr ⟨j_0 (List.mem_of_getElem? (i := 12) rfl),
  List.forall_mem_cons.mpr ⟨j_3 (List.mem_of_getElem? (i := 18) rfl),
  List.forall_mem_cons.mpr ⟨j_3 (List.mem_of_getElem? (i := 19) rfl),
  List.forall_mem_cons.mpr ⟨j_3 (List.mem_of_getElem? (i := 20) rfl),
  List.forall_mem_cons.mpr ⟨j_3 (List.mem_of_getElem? (i := 21) rfl),
  List.forall_mem_cons.mpr ⟨j_3 (List.mem_of_getElem? (i := 22) rfl),
  List.forall_mem_cons.mpr ⟨j_1 (List.mem_of_getElem? (i := 127) rfl),
  List.forall_mem_cons.mpr ⟨j_3 (List.mem_of_getElem? (i := 23) rfl),
  List.forall_mem_cons.mpr ⟨j_3 (List.mem_of_getElem? (i := 24) rfl),
  List.forall_mem_cons.mpr ⟨j_3 (List.mem_of_getElem? (i := 25) rfl),
  List.forall_mem_cons.mpr ⟨j_3 (List.mem_of_getElem? (i := 26) rfl),
  List.forall_mem_cons.mpr ⟨j_3 (List.mem_of_getElem? (i := 27) rfl),
  List.forall_mem_cons.mpr ⟨j_3 (List.mem_of_getElem? (i := 28) rfl),
  List.forall_mem_cons.mpr ⟨j_3 (List.mem_of_getElem? (i := 29) rfl),
  List.forall_mem_cons.mpr ⟨j_3 (List.mem_of_getElem? (i := 30) rfl),
  List.forall_mem_cons.mpr ⟨j_3 (List.mem_of_getElem? (i := 31) rfl),
  List.forall_mem_cons.mpr ⟨j_3 (List.mem_of_getElem? (i := 32) rfl),
  List.forall_mem_cons.mpr ⟨j_3 (List.mem_of_getElem? (i := 33) rfl),
  List.forall_mem_cons.mpr ⟨j_3 (List.mem_of_getElem? (i := 34) rfl),
  List.forall_mem_cons.mpr ⟨j_3 (List.mem_of_getElem? (i := 35) rfl),
  List.forall_mem_cons.mpr ⟨j_3 (List.mem_of_getElem? (i := 36) rfl),
  List.forall_mem_cons.mpr ⟨j_3 (List.mem_of_getElem? (i := 37) rfl), fun _ h => absurd h List.not_mem_nil⟩⟩⟩⟩⟩⟩⟩⟩⟩⟩⟩⟩⟩⟩⟩⟩⟩⟩⟩⟩⟩⟩⟩⟩
theorem i_r27 : ∀ w ∈ wsL_law_r27, w ∈ lw_tbl :=
  List.forall_mem_cons.mpr ⟨j_3 (List.mem_of_getElem? (i := 39) rfl),
  List.forall_mem_cons.mpr ⟨j_0 (List.mem_of_getElem? (i := 13) rfl),
  List.forall_mem_cons.mpr ⟨j_3 (List.mem_of_getElem? (i := 40) rfl),
  List.forall_mem_cons.mpr ⟨j_3 (List.mem_of_getElem? (i := 41) rfl),
  List.forall_mem_cons.mpr ⟨j_3 (List.mem_of_getElem? (i := 42) rfl),
  List.forall_mem_cons.mpr ⟨j_3 (List.mem_of_getElem? (i := 43) rfl),
  List.forall_mem_cons.mpr ⟨j_3 (List.mem_of_getElem? (i := 44) rfl),
  List.forall_mem_cons.mpr ⟨j_3 (List.mem_of_getElem? (i := 45) rfl),
  List.forall_mem_cons.mpr ⟨j_3 (List.mem_of_getElem? (i := 47) rfl),
  List.forall_mem_cons.mpr ⟨j_3 (List.mem_of_getElem? (i := 48) rfl),
  List.forall_mem_cons.mpr ⟨j_3 (List.mem_of_getElem? (i := 49) rfl),
  List.forall_mem_cons.mpr ⟨j_3 (List.mem_of_getElem? (i := 50) rfl),
  List.forall_mem_cons.mpr ⟨j_3 (List.mem_of_getElem? (i := 51) rfl),
  List.forall_mem_cons.mpr ⟨j_3 (List.mem_of_getElem? (i := 46) rfl),
  List.forall_mem_cons.mpr ⟨j_3 (List.mem_of_getElem? (i := 52) rfl),
  List.forall_mem_cons.mpr ⟨j_3 (List.mem_of_getElem? (i := 53) rfl),
  List.forall_mem_cons.mpr ⟨j_3 (List.mem_of_getElem? (i := 54) rfl),
  List.forall_mem_cons.mpr ⟨j_3 (List.mem_of_getElem? (i := 55) rfl),
  List.forall_mem_cons.mpr ⟨j_3 (List.mem_of_getElem? (i := 56) rfl),
  List.forall_mem_cons.mpr ⟨j_3 (List.mem_of_getElem? (i := 57) rfl),
  List.forall_mem_cons.mpr ⟨j_3 (List.mem_of_getElem? (i := 58) rfl),
  List.forall_mem_cons.mpr ⟨j_3 (List.mem_of_getElem? (i := 59) rfl),
  List.forall_mem_cons.mpr ⟨j_3 (List.mem_of_getElem? (i := 60) rfl),
  List.forall_mem_cons.mpr ⟨j_3 (List.mem_of_getElem? (i := 62) rfl), fun _ h => absurd h List.not_mem_nil⟩⟩⟩⟩⟩⟩⟩⟩⟩⟩⟩⟩⟩⟩⟩⟩⟩⟩⟩⟩⟩⟩⟩⟩
theorem i_r28 : ∀ w ∈ wsL_law_r28, w ∈ lw_tbl :=
  List.forall_mem_cons.mpr ⟨j_0 (List.mem_of_getElem? (i := 14) rfl),
  List.forall_mem_cons.mpr ⟨j_3 (List.mem_of_getElem? (i := 63) rfl),
  List.forall_mem_cons.mpr ⟨j_3 (List.mem_of_getElem? (i := 64) rfl),
  List.forall_mem_cons.mpr ⟨j_3 (List.mem_of_getElem? (i := 65) rfl),
  List.forall_mem_cons.mpr ⟨j_3 (List.mem_of_getElem? (i := 66) rfl),
  List.forall_mem_cons.mpr ⟨j_3 (List.mem_of_getElem? (i := 68) rfl),
  List.forall_mem_cons.mpr ⟨j_0 (List.mem_of_getElem? (i := 15) rfl),
  List.forall_mem_cons.mpr ⟨j_3 (List.mem_of_getElem? (i := 69) rfl),
  List.forall_mem_cons.mpr ⟨j_3 (List.mem_of_getElem? (i := 70) rfl),
  List.forall_mem_cons.mpr ⟨j_3 (List.mem_of_getElem? (i := 71) rfl),
  List.forall_mem_cons.mpr ⟨j_3 (List.mem_of_getElem? (i := 72) rfl),
  List.forall_mem_cons.mpr ⟨j_3 (List.mem_of_getElem? (i := 73) rfl),
  List.forall_mem_cons.mpr ⟨j_3 (List.mem_of_getElem? (i := 74) rfl),
  List.forall_mem_cons.mpr ⟨j_3 (List.mem_of_getElem? (i := 89) rfl),
  List.forall_mem_cons.mpr ⟨j_3 (List.mem_of_getElem? (i := 75) rfl),
  List.forall_mem_cons.mpr ⟨j_3 (List.mem_of_getElem? (i := 77) rfl),
  List.forall_mem_cons.mpr ⟨j_0 (List.mem_of_getElem? (i := 16) rfl),
  List.forall_mem_cons.mpr ⟨j_3 (List.mem_of_getElem? (i := 78) rfl),
  List.forall_mem_cons.mpr ⟨j_3 (List.mem_of_getElem? (i := 79) rfl),
  List.forall_mem_cons.mpr ⟨j_3 (List.mem_of_getElem? (i := 80) rfl),
  List.forall_mem_cons.mpr ⟨j_3 (List.mem_of_getElem? (i := 81) rfl),
  List.forall_mem_cons.mpr ⟨j_3 (List.mem_of_getElem? (i := 82) rfl),
  List.forall_mem_cons.mpr ⟨j_3 (List.mem_of_getElem? (i := 88) rfl),
  List.forall_mem_cons.mpr ⟨j_3 (List.mem_of_getElem? (i := 83) rfl), fun _ h => absurd h List.not_mem_nil⟩⟩⟩⟩⟩⟩⟩⟩⟩⟩⟩⟩⟩⟩⟩⟩⟩⟩⟩⟩⟩⟩⟩⟩
theorem i_r29 : ∀ w ∈ wsL_law_r29, w ∈ lw_tbl :=
  List.forall_mem_cons.mpr ⟨j_3 (List.mem_of_getElem? (i := 84) rfl),
  List.forall_mem_cons.mpr ⟨j_3 (List.mem_of_getElem? (i := 86) rfl),
  List.forall_mem_cons.mpr ⟨j_0 (List.mem_of_getElem? (i := 17) rfl),
  List.forall_mem_cons.mpr ⟨j_3 (List.mem_of_getElem? (i := 87) rfl),
  List.forall_mem_cons.mpr ⟨j_5 (List.mem_of_getElem? (i := 232) rfl),
  List.forall_mem_cons.mpr ⟨j_5 (List.mem_of_getElem? (i := 233) rfl),
  List.forall_mem_cons.mpr ⟨j_5 (List.mem_of_getElem? (i := 234) rfl),
  List.forall_mem_cons.mpr ⟨j_5 (List.mem_of_getElem? (i := 235) rfl),
  List.forall_mem_cons.mpr ⟨j_5 (List.mem_of_getElem? (i := 236) rfl),
  List.forall_mem_cons.mpr ⟨j_5 (List.mem_of_getElem? (i := 238) rfl),
  List.forall_mem_cons.mpr ⟨j_0 (List.mem_of_getElem? (i := 36) rfl),
  List.forall_mem_cons.mpr ⟨j_5 (List.mem_of_getElem? (i := 239) rfl),
  List.forall_mem_cons.mpr ⟨j_6 (List.mem_of_getElem? (i := 0) rfl),
  List.forall_mem_cons.mpr ⟨j_6 (List.mem_of_getElem? (i := 2) rfl),
  List.forall_mem_cons.mpr ⟨j_0 (List.mem_of_getElem? (i := 37) rfl),
  List.forall_mem_cons.mpr ⟨j_6 (List.mem_of_getElem? (i := 3) rfl),
  List.forall_mem_cons.mpr ⟨j_6 (List.mem_of_getElem? (i := 4) rfl),
  List.forall_mem_cons.mpr ⟨j_6 (List.mem_of_getElem? (i := 6) rfl),
  List.forall_mem_cons.mpr ⟨j_0 (List.mem_of_getElem? (i := 38) rfl),
  List.forall_mem_cons.mpr ⟨j_6 (List.mem_of_getElem? (i := 7) rfl),
  List.forall_mem_cons.mpr ⟨j_6 (List.mem_of_getElem? (i := 8) rfl),
  List.forall_mem_cons.mpr ⟨j_6 (List.mem_of_getElem? (i := 9) rfl),
  List.forall_mem_cons.mpr ⟨j_6 (List.mem_of_getElem? (i := 10) rfl),
  List.forall_mem_cons.mpr ⟨j_6 (List.mem_of_getElem? (i := 11) rfl), fun _ h => absurd h List.not_mem_nil⟩⟩⟩⟩⟩⟩⟩⟩⟩⟩⟩⟩⟩⟩⟩⟩⟩⟩⟩⟩⟩⟩⟩⟩
theorem i_r30 : ∀ w ∈ wsL_law_r30, w ∈ lw_tbl :=
  List.forall_mem_cons.mpr ⟨j_6 (List.mem_of_getElem? (i := 12) rfl),
  List.forall_mem_cons.mpr ⟨j_6 (List.mem_of_getElem? (i := 13) rfl),
  List.forall_mem_cons.mpr ⟨j_6 (List.mem_of_getElem? (i := 14) rfl),
  List.forall_mem_cons.mpr ⟨j_6 (List.mem_of_getElem? (i := 15) rfl),
  List.forall_mem_cons.mpr ⟨j_6 (List.mem_of_getElem? (i := 17) rfl),
  List.forall_mem_cons.mpr ⟨j_0 (List.mem_of_getElem? (i := 39) rfl),
  List.forall_mem_cons.mpr ⟨j_6 (List.mem_of_getElem? (i := 18) rfl),
  List.forall_mem_cons.mpr ⟨j_6 (List.mem_of_getElem? (i := 19) rfl),
  List.forall_mem_cons.mpr ⟨j_6 (List.mem_of_getElem? (i := 21) rfl),
  List.forall_mem_cons.mpr ⟨j_0 (List.mem_of_getElem? (i := 40) rfl),
  List.forall_mem_cons.mpr ⟨j_6 (List.mem_of_getElem? (i := 22) rfl),
  List.forall_mem_cons.mpr ⟨j_6 (List.mem_of_getElem? (i := 23) rfl),
  List.forall_mem_cons.mpr ⟨j_6 (List.mem_of_getElem? (i := 25) rfl),
  List.forall_mem_cons.mpr ⟨j_0 (List.mem_of_getElem? (i := 41) rfl),
  List.forall_mem_cons.mpr ⟨j_6 (List.mem_of_getElem? (i := 26) rfl),
  List.forall_mem_cons.mpr ⟨j_6 (List.mem_of_getElem? (i := 27) rfl),
  List.forall_mem_cons.mpr ⟨j_6 (List.mem_of_getElem? (i := 29) rfl),
  List.forall_mem_cons.mpr ⟨j_0 (List.mem_of_getElem? (i := 42) rfl),
  List.forall_mem_cons.mpr ⟨j_6 (List.mem_of_getElem? (i := 30) rfl),
  List.forall_mem_cons.mpr ⟨j_6 (List.mem_of_getElem? (i := 31) rfl),
  List.forall_mem_cons.mpr ⟨j_6 (List.mem_of_getElem? (i := 33) rfl),
  List.forall_mem_cons.mpr ⟨j_0 (List.mem_of_getElem? (i := 43) rfl),
  List.forall_mem_cons.mpr ⟨j_6 (List.mem_of_getElem? (i := 34) rfl),
  List.forall_mem_cons.mpr ⟨j_6 (List.mem_of_getElem? (i := 35) rfl), fun _ h => absurd h List.not_mem_nil⟩⟩⟩⟩⟩⟩⟩⟩⟩⟩⟩⟩⟩⟩⟩⟩⟩⟩⟩⟩⟩⟩⟩⟩
theorem i_r31 : ∀ w ∈ wsL_law_r31, w ∈ lw_tbl :=
  List.forall_mem_cons.mpr ⟨j_6 (List.mem_of_getElem? (i := 37) rfl),
  List.forall_mem_cons.mpr ⟨j_0 (List.mem_of_getElem? (i := 44) rfl),
  List.forall_mem_cons.mpr ⟨j_6 (List.mem_of_getElem? (i := 38) rfl),
  List.forall_mem_cons.mpr ⟨j_3 (List.mem_of_getElem? (i := 90) rfl),
  List.forall_mem_cons.mpr ⟨j_3 (List.mem_of_getElem? (i := 91) rfl),
  List.forall_mem_cons.mpr ⟨j_3 (List.mem_of_getElem? (i := 92) rfl),
  List.forall_mem_cons.mpr ⟨j_3 (List.mem_of_getElem? (i := 93) rfl),
  List.forall_mem_cons.mpr ⟨j_3 (List.mem_of_getElem? (i := 94) rfl),
  List.forall_mem_cons.mpr ⟨j_3 (List.mem_of_getElem? (i := 95) rfl),
  List.forall_mem_cons.mpr ⟨j_3 (List.mem_of_getElem? (i := 96) rfl),
  List.forall_mem_cons.mpr ⟨j_3 (List.mem_of_getElem? (i := 97) rfl),
  List.forall_mem_cons.mpr ⟨j_6 (List.mem_of_getElem? (i := 39) rfl),
  List.forall_mem_cons.mpr ⟨j_6 (List.mem_of_getElem? (i := 40) rfl),
  List.forall_mem_cons.mpr ⟨j_6 (List.mem_of_getElem? (i := 41) rfl),
  List.forall_mem_cons.mpr ⟨j_6 (List.mem_of_getElem? (i := 42) rfl),
  List.forall_mem_cons.mpr ⟨j_6 (List.mem_of_getElem? (i := 43) rfl),
  List.forall_mem_cons.mpr ⟨j_6 (List.mem_of_getElem? (i := 45) rfl),
  List.forall_mem_cons.mpr ⟨j_0 (List.mem_of_getElem? (i := 45) rfl),
  List.forall_mem_cons.mpr ⟨j_6 (List.mem_of_getElem? (i := 46) rfl),
  List.forall_mem_cons.mpr ⟨j_3 (List.mem_of_getElem? (i := 98) rfl),
  List.forall_mem_cons.mpr ⟨j_3 (List.mem_of_getElem? (i := 99) rfl),
  List.forall_mem_cons.mpr ⟨j_3 (List.mem_of_getElem? (i := 100) rfl),
  List.forall_mem_cons.mpr ⟨j_3 (List.mem_of_getElem? (i := 101) rfl),
  List.forall_mem_cons.mpr ⟨j_3 (List.mem_of_getElem? (i := 102) rfl), fun _ h => absurd h List.not_mem_nil⟩⟩⟩⟩⟩⟩⟩⟩⟩⟩⟩⟩⟩⟩⟩⟩⟩⟩⟩⟩⟩⟩⟩⟩
theorem i_r32 : ∀ w ∈ wsL_law_r32, w ∈ lw_tbl :=
  List.forall_mem_cons.mpr ⟨j_3 (List.mem_of_getElem? (i := 103) rfl),
  List.forall_mem_cons.mpr ⟨j_3 (List.mem_of_getElem? (i := 104) rfl),
  List.forall_mem_cons.mpr ⟨j_3 (List.mem_of_getElem? (i := 105) rfl),
  List.forall_mem_cons.mpr ⟨j_3 (List.mem_of_getElem? (i := 106) rfl),
  List.forall_mem_cons.mpr ⟨j_3 (List.mem_of_getElem? (i := 107) rfl),
  List.forall_mem_cons.mpr ⟨j_3 (List.mem_of_getElem? (i := 108) rfl),
  List.forall_mem_cons.mpr ⟨j_3 (List.mem_of_getElem? (i := 109) rfl),
  List.forall_mem_cons.mpr ⟨j_3 (List.mem_of_getElem? (i := 110) rfl),
  List.forall_mem_cons.mpr ⟨j_3 (List.mem_of_getElem? (i := 111) rfl),
  List.forall_mem_cons.mpr ⟨j_3 (List.mem_of_getElem? (i := 112) rfl),
  List.forall_mem_cons.mpr ⟨j_3 (List.mem_of_getElem? (i := 113) rfl),
  List.forall_mem_cons.mpr ⟨j_3 (List.mem_of_getElem? (i := 114) rfl),
  List.forall_mem_cons.mpr ⟨j_3 (List.mem_of_getElem? (i := 115) rfl),
  List.forall_mem_cons.mpr ⟨j_3 (List.mem_of_getElem? (i := 116) rfl),
  List.forall_mem_cons.mpr ⟨j_3 (List.mem_of_getElem? (i := 117) rfl),
  List.forall_mem_cons.mpr ⟨j_3 (List.mem_of_getElem? (i := 119) rfl),
  List.forall_mem_cons.mpr ⟨j_3 (List.mem_of_getElem? (i := 120) rfl),
  List.forall_mem_cons.mpr ⟨j_3 (List.mem_of_getElem? (i := 121) rfl),
  List.forall_mem_cons.mpr ⟨j_1 (List.mem_of_getElem? (i := 16) rfl),
  List.forall_mem_cons.mpr ⟨j_3 (List.mem_of_getElem? (i := 122) rfl),
  List.forall_mem_cons.mpr ⟨j_6 (List.mem_of_getElem? (i := 140) rfl),
  List.forall_mem_cons.mpr ⟨j_3 (List.mem_of_getElem? (i := 123) rfl),
  List.forall_mem_cons.mpr ⟨j_3 (List.mem_of_getElem? (i := 124) rfl),
  List.forall_mem_cons.mpr ⟨j_3 (List.mem_of_getElem? (i := 125) rfl), fun _ h => absurd h List.not_mem_nil⟩⟩⟩⟩⟩⟩⟩⟩⟩⟩⟩⟩⟩⟩⟩⟩⟩⟩⟩⟩⟩⟩⟩⟩
theorem i_r33 : ∀ w ∈ wsL_law_r33, w ∈ lw_tbl :=
  List.forall_mem_cons.mpr ⟨j_3 (List.mem_of_getElem? (i := 126) rfl),
  List.forall_mem_cons.mpr ⟨j_3 (List.mem_of_getElem? (i := 127) rfl),
  List.forall_mem_cons.mpr ⟨j_6 (List.mem_of_getElem? (i := 139) rfl),
  List.forall_mem_cons.mpr ⟨j_3 (List.mem_of_getElem? (i := 129) rfl),
  List.forall_mem_cons.mpr ⟨j_3 (List.mem_of_getElem? (i := 130) rfl),
  List.forall_mem_cons.mpr ⟨j_1 (List.mem_of_getElem? (i := 17) rfl),
  List.forall_mem_cons.mpr ⟨j_3 (List.mem_of_getElem? (i := 131) rfl),
  List.forall_mem_cons.mpr ⟨j_3 (List.mem_of_getElem? (i := 132) rfl),
  List.forall_mem_cons.mpr ⟨j_3 (List.mem_of_getElem? (i := 133) rfl),
  List.forall_mem_cons.mpr ⟨j_3 (List.mem_of_getElem? (i := 134) rfl),
  List.forall_mem_cons.mpr ⟨j_3 (List.mem_of_getElem? (i := 135) rfl),
  List.forall_mem_cons.mpr ⟨j_3 (List.mem_of_getElem? (i := 137) rfl),
  List.forall_mem_cons.mpr ⟨j_3 (List.mem_of_getElem? (i := 138) rfl),
  List.forall_mem_cons.mpr ⟨j_1 (List.mem_of_getElem? (i := 18) rfl),
  List.forall_mem_cons.mpr ⟨j_3 (List.mem_of_getElem? (i := 139) rfl),
  List.forall_mem_cons.mpr ⟨j_3 (List.mem_of_getElem? (i := 140) rfl),
  List.forall_mem_cons.mpr ⟨j_3 (List.mem_of_getElem? (i := 141) rfl),
  List.forall_mem_cons.mpr ⟨j_1 (List.mem_of_getElem? (i := 19) rfl),
  List.forall_mem_cons.mpr ⟨j_3 (List.mem_of_getElem? (i := 142) rfl),
  List.forall_mem_cons.mpr ⟨j_3 (List.mem_of_getElem? (i := 143) rfl),
  List.forall_mem_cons.mpr ⟨j_3 (List.mem_of_getElem? (i := 144) rfl),
  List.forall_mem_cons.mpr ⟨j_3 (List.mem_of_getElem? (i := 145) rfl),
  List.forall_mem_cons.mpr ⟨j_3 (List.mem_of_getElem? (i := 146) rfl),
  List.forall_mem_cons.mpr ⟨j_3 (List.mem_of_getElem? (i := 147) rfl), fun _ h => absurd h List.not_mem_nil⟩⟩⟩⟩⟩⟩⟩⟩⟩⟩⟩⟩⟩⟩⟩⟩⟩⟩⟩⟩⟩⟩⟩⟩
theorem i_r34 : ∀ w ∈ wsL_law_r34, w ∈ lw_tbl :=
  List.forall_mem_cons.mpr ⟨j_3 (List.mem_of_getElem? (i := 148) rfl),
  List.forall_mem_cons.mpr ⟨j_3 (List.mem_of_getElem? (i := 149) rfl),
  List.forall_mem_cons.mpr ⟨j_3 (List.mem_of_getElem? (i := 150) rfl),
  List.forall_mem_cons.mpr ⟨j_3 (List.mem_of_getElem? (i := 151) rfl),
  List.forall_mem_cons.mpr ⟨j_3 (List.mem_of_getElem? (i := 152) rfl),
  List.forall_mem_cons.mpr ⟨j_3 (List.mem_of_getElem? (i := 153) rfl),
  List.forall_mem_cons.mpr ⟨j_3 (List.mem_of_getElem? (i := 155) rfl),
  List.forall_mem_cons.mpr ⟨j_3 (List.mem_of_getElem? (i := 157) rfl),
  List.forall_mem_cons.mpr ⟨j_3 (List.mem_of_getElem? (i := 159) rfl),
  List.forall_mem_cons.mpr ⟨j_3 (List.mem_of_getElem? (i := 160) rfl),
  List.forall_mem_cons.mpr ⟨j_3 (List.mem_of_getElem? (i := 161) rfl),
  List.forall_mem_cons.mpr ⟨j_3 (List.mem_of_getElem? (i := 162) rfl),
  List.forall_mem_cons.mpr ⟨j_3 (List.mem_of_getElem? (i := 163) rfl),
  List.forall_mem_cons.mpr ⟨j_3 (List.mem_of_getElem? (i := 164) rfl),
  List.forall_mem_cons.mpr ⟨j_3 (List.mem_of_getElem? (i := 165) rfl),
  List.forall_mem_cons.mpr ⟨j_3 (List.mem_of_getElem? (i := 166) rfl),
  List.forall_mem_cons.mpr ⟨j_6 (List.mem_of_getElem? (i := 47) rfl),
  List.forall_mem_cons.mpr ⟨j_6 (List.mem_of_getElem? (i := 48) rfl),
  List.forall_mem_cons.mpr ⟨j_6 (List.mem_of_getElem? (i := 49) rfl),
  List.forall_mem_cons.mpr ⟨j_6 (List.mem_of_getElem? (i := 50) rfl),
  List.forall_mem_cons.mpr ⟨j_6 (List.mem_of_getElem? (i := 52) rfl),
  List.forall_mem_cons.mpr ⟨j_6 (List.mem_of_getElem? (i := 53) rfl),
  List.forall_mem_cons.mpr ⟨j_6 (List.mem_of_getElem? (i := 55) rfl),
  List.forall_mem_cons.mpr ⟨j_0 (List.mem_of_getElem? (i := 46) rfl), fun _ h => absurd h List.not_mem_nil⟩⟩⟩⟩⟩⟩⟩⟩⟩⟩⟩⟩⟩⟩⟩⟩⟩⟩⟩⟩⟩⟩⟩⟩
theorem i_r35 : ∀ w ∈ wsL_law_r35, w ∈ lw_tbl :=
  List.forall_mem_cons.mpr ⟨j_6 (List.mem_of_getElem? (i := 56) rfl),
  List.forall_mem_cons.mpr ⟨j_3 (List.mem_of_getElem? (i := 167) rfl),
  List.forall_mem_cons.mpr ⟨j_3 (List.mem_of_getElem? (i := 168) rfl),
  List.forall_mem_cons.mpr ⟨j_3 (List.mem_of_getElem? (i := 169) rfl),
  List.forall_mem_cons.mpr ⟨j_3 (List.mem_of_getElem? (i := 170) rfl),
  List.forall_mem_cons.mpr ⟨j_3 (List.mem_of_getElem? (i := 171) rfl),
  List.forall_mem_cons.mpr ⟨j_3 (List.mem_of_getElem? (i := 173) rfl),
  List.forall_mem_cons.mpr ⟨j_0 (List.mem_of_getElem? (i := 18) rfl),
  List.forall_mem_cons.mpr ⟨j_3 (List.mem_of_getElem? (i := 174) rfl),
  List.forall_mem_cons.mpr ⟨j_3 (List.mem_of_getElem? (i := 175) rfl),
  List.forall_mem_cons.mpr ⟨j_3 (List.mem_of_getElem? (i := 176) rfl),
  List.forall_mem_cons.mpr ⟨j_3 (List.mem_of_getElem? (i := 177) rfl),
  List.forall_mem_cons.mpr ⟨j_3 (List.mem_of_getElem? (i := 178) rfl),
  List.forall_mem_cons.mpr ⟨j_3 (List.mem_of_getElem? (i := 179) rfl),
  List.forall_mem_cons.mpr ⟨j_3 (List.mem_of_getElem? (i := 180) rfl),
  List.forall_mem_cons.mpr ⟨j_3 (List.mem_of_getElem? (i := 181) rfl),
  List.forall_mem_cons.mpr ⟨j_3 (List.mem_of_getElem? (i := 182) rfl),
  List.forall_mem_cons.mpr ⟨j_3 (List.mem_of_getElem? (i := 183) rfl),
  List.forall_mem_cons.mpr ⟨j_3 (List.mem_of_getElem? (i := 184) rfl),
  List.forall_mem_cons.mpr ⟨j_3 (List.mem_of_getElem? (i := 185) rfl),
  List.forall_mem_cons.mpr ⟨j_3 (List.mem_of_getElem? (i := 186) rfl),
  List.forall_mem_cons.mpr ⟨j_3 (List.mem_of_getElem? (i := 187) rfl),
  List.forall_mem_cons.mpr ⟨j_3 (List.mem_of_getElem? (i := 188) rfl),
  List.forall_mem_cons.mpr ⟨j_3 (List.mem_of_getElem? (i := 189) rfl), fun _ h => absurd h List.not_mem_nil⟩⟩⟩⟩⟩⟩⟩⟩⟩⟩⟩⟩⟩⟩⟩⟩⟩⟩⟩⟩⟩⟩⟩⟩
theorem i_r36 : ∀ w ∈ wsL_law_r36, w ∈ lw_tbl :=
  List.forall_mem_cons.mpr ⟨j_3 (List.mem_of_getElem? (i := 190) rfl),
  List.forall_mem_cons.mpr ⟨j_3 (List.mem_of_getElem? (i := 191) rfl),
  List.forall_mem_cons.mpr ⟨j_3 (List.mem_of_getElem? (i := 192) rfl),
  List.forall_mem_cons.mpr ⟨j_1 (List.mem_of_getElem? (i := 206) rfl),
  List.forall_mem_cons.mpr ⟨j_3 (List.mem_of_getElem? (i := 193) rfl),
  List.forall_mem_cons.mpr ⟨j_3 (List.mem_of_getElem? (i := 194) rfl),
  List.forall_mem_cons.mpr ⟨j_3 (List.mem_of_getElem? (i := 195) rfl),
  List.forall_mem_cons.mpr ⟨j_3 (List.mem_of_getElem? (i := 196) rfl),
  List.forall_mem_cons.mpr ⟨j_3 (List.mem_of_getElem? (i := 200) rfl),
  List.forall_mem_cons.mpr ⟨j_3 (List.mem_of_getElem? (i := 197) rfl),
  List.forall_mem_cons.mpr ⟨j_3 (List.mem_of_getElem? (i := 198) rfl),
  List.forall_mem_cons.mpr ⟨j_3 (List.mem_of_getElem? (i := 199) rfl),
  List.forall_mem_cons.mpr ⟨j_3 (List.mem_of_getElem? (i := 202) rfl),
  List.forall_mem_cons.mpr ⟨j_3 (List.mem_of_getElem? (i := 203) rfl),
  List.forall_mem_cons.mpr ⟨j_3 (List.mem_of_getElem? (i := 204) rfl),
  List.forall_mem_cons.mpr ⟨j_3 (List.mem_of_getElem? (i := 205) rfl),
  List.forall_mem_cons.mpr ⟨j_3 (List.mem_of_getElem? (i := 206) rfl),
  List.forall_mem_cons.mpr ⟨j_3 (List.mem_of_getElem? (i := 207) rfl),
  List.forall_mem_cons.mpr ⟨j_3 (List.mem_of_getElem? (i := 208) rfl),
  List.forall_mem_cons.mpr ⟨j_3 (List.mem_of_getElem? (i := 209) rfl),
  List.forall_mem_cons.mpr ⟨j_3 (List.mem_of_getElem? (i := 210) rfl),
  List.forall_mem_cons.mpr ⟨j_3 (List.mem_of_getElem? (i := 211) rfl),
  List.forall_mem_cons.mpr ⟨j_3 (List.mem_of_getElem? (i := 212) rfl),
  List.forall_mem_cons.mpr ⟨j_3 (List.mem_of_getElem? (i := 213) rfl), fun _ h => absurd h List.not_mem_nil⟩⟩⟩⟩⟩⟩⟩⟩⟩⟩⟩⟩⟩⟩⟩⟩⟩⟩⟩⟩⟩⟩⟩⟩
theorem i_r37 : ∀ w ∈ wsL_law_r37, w ∈ lw_tbl :=
  List.forall_mem_cons.mpr ⟨j_3 (List.mem_of_getElem? (i := 214) rfl),
  List.forall_mem_cons.mpr ⟨j_3 (List.mem_of_getElem? (i := 215) rfl),
  List.forall_mem_cons.mpr ⟨j_3 (List.mem_of_getElem? (i := 216) rfl),
  List.forall_mem_cons.mpr ⟨j_3 (List.mem_of_getElem? (i := 217) rfl),
  List.forall_mem_cons.mpr ⟨j_3 (List.mem_of_getElem? (i := 218) rfl),
  List.forall_mem_cons.mpr ⟨j_3 (List.mem_of_getElem? (i := 219) rfl),
  List.forall_mem_cons.mpr ⟨j_3 (List.mem_of_getElem? (i := 220) rfl),
  List.forall_mem_cons.mpr ⟨j_3 (List.mem_of_getElem? (i := 221) rfl),
  List.forall_mem_cons.mpr ⟨j_3 (List.mem_of_getElem? (i := 222) rfl),
  List.forall_mem_cons.mpr ⟨j_6 (List.mem_of_getElem? (i := 57) rfl),
  List.forall_mem_cons.mpr ⟨j_6 (List.mem_of_getElem? (i := 58) rfl),
  List.forall_mem_cons.mpr ⟨j_6 (List.mem_of_getElem? (i := 59) rfl),
  List.forall_mem_cons.mpr ⟨j_6 (List.mem_of_getElem? (i := 60) rfl),
  List.forall_mem_cons.mpr ⟨j_6 (List.mem_of_getElem? (i := 61) rfl),
  List.forall_mem_cons.mpr ⟨j_6 (List.mem_of_getElem? (i := 63) rfl),
  List.forall_mem_cons.mpr ⟨j_0 (List.mem_of_getElem? (i := 47) rfl),
  List.forall_mem_cons.mpr ⟨j_6 (List.mem_of_getElem? (i := 64) rfl),
  List.forall_mem_cons.mpr ⟨j_6 (List.mem_of_getElem? (i := 65) rfl),
  List.forall_mem_cons.mpr ⟨j_6 (List.mem_of_getElem? (i := 67) rfl),
  List.forall_mem_cons.mpr ⟨j_0 (List.mem_of_getElem? (i := 48) rfl),
  List.forall_mem_cons.mpr ⟨j_6 (List.mem_of_getElem? (i := 68) rfl),
  List.forall_mem_cons.mpr ⟨j_6 (List.mem_of_getElem? (i := 69) rfl),
  List.forall_mem_cons.mpr ⟨j_6 (List.mem_of_getElem? (i := 71) rfl),
  List.forall_mem_cons.mpr ⟨j_0 (List.mem_of_getElem? (i := 49) rfl), fun _ h => absurd h List.not_mem_nil⟩⟩⟩⟩⟩⟩⟩⟩⟩⟩⟩⟩⟩⟩⟩⟩⟩⟩⟩⟩⟩⟩⟩⟩
theorem i_r38 : ∀ w ∈ wsL_law_r38, w ∈ lw_tbl :=
  List.forall_mem_cons.mpr ⟨j_6 (List.mem_of_getElem? (i := 72) rfl),
  List.forall_mem_cons.mpr ⟨j_6 (List.mem_of_getElem? (i := 73) rfl),
  List.forall_mem_cons.mpr ⟨j_6 (List.mem_of_getElem? (i := 75) rfl),
  List.forall_mem_cons.mpr ⟨j_0 (List.mem_of_getElem? (i := 50) rfl),
  List.forall_mem_cons.mpr ⟨j_6 (List.mem_of_getElem? (i := 76) rfl),
  List.forall_mem_cons.mpr ⟨j_6 (List.mem_of_getElem? (i := 77) rfl),
  List.forall_mem_cons.mpr ⟨j_6 (List.mem_of_getElem? (i := 79) rfl),
  List.forall_mem_cons.mpr ⟨j_0 (List.mem_of_getElem? (i := 51) rfl),
  List.forall_mem_cons.mpr ⟨j_6 (List.mem_of_getElem? (i := 80) rfl),
  List.forall_mem_cons.mpr ⟨j_6 (List.mem_of_getElem? (i := 81) rfl),
  List.forall_mem_cons.mpr ⟨j_6 (List.mem_of_getElem? (i := 83) rfl),
  List.forall_mem_cons.mpr ⟨j_0 (List.mem_of_getElem? (i := 52) rfl),
  List.forall_mem_cons.mpr ⟨j_6 (List.mem_of_getElem? (i := 84) rfl),
  List.forall_mem_cons.mpr ⟨j_6 (List.mem_of_getElem? (i := 85) rfl),
  List.forall_mem_cons.mpr ⟨j_6 (List.mem_of_getElem? (i := 87) rfl),
  List.forall_mem_cons.mpr ⟨j_0 (List.mem_of_getElem? (i := 53) rfl),
  List.forall_mem_cons.mpr ⟨j_6 (List.mem_of_getElem? (i := 88) rfl),
  List.forall_mem_cons.mpr ⟨j_6 (List.mem_of_getElem? (i := 89) rfl),
  List.forall_mem_cons.mpr ⟨j_6 (List.mem_of_getElem? (i := 91) rfl),
  List.forall_mem_cons.mpr ⟨j_0 (List.mem_of_getElem? (i := 54) rfl),
  List.forall_mem_cons.mpr ⟨j_6 (List.mem_of_getElem? (i := 92) rfl),
  List.forall_mem_cons.mpr ⟨j_3 (List.mem_of_getElem? (i := 225) rfl),
  List.forall_mem_cons.mpr ⟨j_3 (List.mem_of_getElem? (i := 226) rfl),
  List.forall_mem_cons.mpr ⟨j_3 (List.mem_of_getElem? (i := 227) rfl), fun _ h => absurd h List.not_mem_nil⟩⟩⟩⟩⟩⟩⟩⟩⟩⟩⟩⟩⟩⟩⟩⟩⟩⟩⟩⟩⟩⟩⟩⟩
theorem i_r39 : ∀ w ∈ wsL_law_r39, w ∈ lw_tbl :=
  List.forall_mem_cons.mpr ⟨j_3 (List.mem_of_getElem? (i := 228) rfl),
  List.forall_mem_cons.mpr ⟨j_3 (List.mem_of_getElem? (i := 229) rfl),
  List.forall_mem_cons.mpr ⟨j_3 (List.mem_of_getElem? (i := 230) rfl),
  List.forall_mem_cons.mpr ⟨j_3 (List.mem_of_getElem? (i := 231) rfl),
  List.forall_mem_cons.mpr ⟨j_3 (List.mem_of_getElem? (i := 232) rfl),
  List.forall_mem_cons.mpr ⟨j_3 (List.mem_of_getElem? (i := 233) rfl),
  List.forall_mem_cons.mpr ⟨j_3 (List.mem_of_getElem? (i := 234) rfl),
  List.forall_mem_cons.mpr ⟨j_3 (List.mem_of_getElem? (i := 235) rfl),
  List.forall_mem_cons.mpr ⟨j_3 (List.mem_of_getElem? (i := 236) rfl),
  List.forall_mem_cons.mpr ⟨j_3 (List.mem_of_getElem? (i := 237) rfl),
  List.forall_mem_cons.mpr ⟨j_3 (List.mem_of_getElem? (i := 239) rfl),
  List.forall_mem_cons.mpr ⟨j_4 (List.mem_of_getElem? (i := 0) rfl),
  List.forall_mem_cons.mpr ⟨j_4 (List.mem_of_getElem? (i := 1) rfl),
  List.forall_mem_cons.mpr ⟨j_4 (List.mem_of_getElem? (i := 2) rfl),
  List.forall_mem_cons.mpr ⟨j_4 (List.mem_of_getElem? (i := 3) rfl),
  List.forall_mem_cons.mpr ⟨j_4 (List.mem_of_getElem? (i := 4) rfl),
  List.forall_mem_cons.mpr ⟨j_4 (List.mem_of_getElem? (i := 5) rfl),
  List.forall_mem_cons.mpr ⟨j_4 (List.mem_of_getElem? (i := 6) rfl),
  List.forall_mem_cons.mpr ⟨j_4 (List.mem_of_getElem? (i := 7) rfl),
  List.forall_mem_cons.mpr ⟨j_4 (List.mem_of_getElem? (i := 8) rfl),
  List.forall_mem_cons.mpr ⟨j_4 (List.mem_of_getElem? (i := 9) rfl),
  List.forall_mem_cons.mpr ⟨j_4 (List.mem_of_getElem? (i := 10) rfl),
  List.forall_mem_cons.mpr ⟨j_4 (List.mem_of_getElem? (i := 11) rfl),
  List.forall_mem_cons.mpr ⟨j_4 (List.mem_of_getElem? (i := 12) rfl), fun _ h => absurd h List.not_mem_nil⟩⟩⟩⟩⟩⟩⟩⟩⟩⟩⟩⟩⟩⟩⟩⟩⟩⟩⟩⟩⟩⟩⟩⟩
theorem i_r40 : ∀ w ∈ wsL_law_r40, w ∈ lw_tbl :=
  List.forall_mem_cons.mpr ⟨j_4 (List.mem_of_getElem? (i := 13) rfl),
  List.forall_mem_cons.mpr ⟨j_4 (List.mem_of_getElem? (i := 14) rfl),
  List.forall_mem_cons.mpr ⟨j_4 (List.mem_of_getElem? (i := 15) rfl),
  List.forall_mem_cons.mpr ⟨j_4 (List.mem_of_getElem? (i := 16) rfl),
  List.forall_mem_cons.mpr ⟨j_4 (List.mem_of_getElem? (i := 17) rfl),
  List.forall_mem_cons.mpr ⟨j_4 (List.mem_of_getElem? (i := 19) rfl),
  List.forall_mem_cons.mpr ⟨j_0 (List.mem_of_getElem? (i := 19) rfl),
  List.forall_mem_cons.mpr ⟨j_4 (List.mem_of_getElem? (i := 20) rfl),
  List.forall_mem_cons.mpr ⟨j_6 (List.mem_of_getElem? (i := 93) rfl),
  List.forall_mem_cons.mpr ⟨j_6 (List.mem_of_getElem? (i := 94) rfl),
  List.forall_mem_cons.mpr ⟨j_6 (List.mem_of_getElem? (i := 95) rfl),
  List.forall_mem_cons.mpr ⟨j_6 (List.mem_of_getElem? (i := 96) rfl),
  List.forall_mem_cons.mpr ⟨j_6 (List.mem_of_getElem? (i := 97) rfl),
  List.forall_mem_cons.mpr ⟨j_6 (List.mem_of_getElem? (i := 99) rfl),
  List.forall_mem_cons.mpr ⟨j_0 (List.mem_of_getElem? (i := 55) rfl),
  List.forall_mem_cons.mpr ⟨j_6 (List.mem_of_getElem? (i := 100) rfl),
  List.forall_mem_cons.mpr ⟨j_6 (List.mem_of_getElem? (i := 101) rfl),
  List.forall_mem_cons.mpr ⟨j_6 (List.mem_of_getElem? (i := 103) rfl),
  List.forall_mem_cons.mpr ⟨j_0 (List.mem_of_getElem? (i := 56) rfl),
  List.forall_mem_cons.mpr ⟨j_6 (List.mem_of_getElem? (i := 104) rfl),
  List.forall_mem_cons.mpr ⟨j_4 (List.mem_of_getElem? (i := 21) rfl),
  List.forall_mem_cons.mpr ⟨j_4 (List.mem_of_getElem? (i := 22) rfl),
  List.forall_mem_cons.mpr ⟨j_4 (List.mem_of_getElem? (i := 23) rfl),
  List.forall_mem_cons.mpr ⟨j_4 (List.mem_of_getElem? (i := 24) rfl), fun _ h => absurd h List.not_mem_nil⟩⟩⟩⟩⟩⟩⟩⟩⟩⟩⟩⟩⟩⟩⟩⟩⟩⟩⟩⟩⟩⟩⟩⟩
theorem i_r41 : ∀ w ∈ wsL_law_r41, w ∈ lw_tbl :=
  List.forall_mem_cons.mpr ⟨j_4 (List.mem_of_getElem? (i := 25) rfl),
  List.forall_mem_cons.mpr ⟨j_4 (List.mem_of_getElem? (i := 26) rfl),
  List.forall_mem_cons.mpr ⟨j_4 (List.mem_of_getElem? (i := 27) rfl),
  List.forall_mem_cons.mpr ⟨j_4 (List.mem_of_getElem? (i := 28) rfl),
  List.forall_mem_cons.mpr ⟨j_4 (List.mem_of_getElem? (i := 29) rfl),
  List.forall_mem_cons.mpr ⟨j_4 (List.mem_of_getElem? (i := 30) rfl),
  List.forall_mem_cons.mpr ⟨j_4 (List.mem_of_getElem? (i := 31) rfl),
  List.forall_mem_cons.mpr ⟨j_4 (List.mem_of_getElem? (i := 32) rfl),
  List.forall_mem_cons.mpr ⟨j_4 (List.mem_of_getElem? (i := 34) rfl),
  List.forall_mem_cons.mpr ⟨j_6 (List.mem_of_getElem? (i := 105) rfl),
  List.forall_mem_cons.mpr ⟨j_6 (List.mem_of_getElem? (i := 106) rfl),
  List.forall_mem_cons.mpr ⟨j_6 (List.mem_of_getElem? (i := 107) rfl),
  List.forall_mem_cons.mpr ⟨j_6 (List.mem_of_getElem? (i := 108) rfl),
  List.forall_mem_cons.mpr ⟨j_6 (List.mem_of_getElem? (i := 109) rfl),
  List.forall_mem_cons.mpr ⟨j_6 (List.mem_of_getElem? (i := 111) rfl),
  List.forall_mem_cons.mpr ⟨j_0 (List.mem_of_getElem? (i := 57) rfl),
  List.forall_mem_cons.mpr ⟨j_6 (List.mem_of_getElem? (i := 112) rfl),
  List.forall_mem_cons.mpr ⟨j_4 (List.mem_of_getElem? (i := 35) rfl),
  List.forall_mem_cons.mpr ⟨j_4 (List.mem_of_getElem? (i := 36) rfl),
  List.forall_mem_cons.mpr ⟨j_4 (List.mem_of_getElem? (i := 37) rfl),
  List.forall_mem_cons.mpr ⟨j_4 (List.mem_of_getElem? (i := 38) rfl),
  List.forall_mem_cons.mpr ⟨j_4 (List.mem_of_getElem? (i := 39) rfl),
  List.forall_mem_cons.mpr ⟨j_4 (List.mem_of_getElem? (i := 40) rfl),
  List.forall_mem_cons.mpr ⟨j_4 (List.mem_of_getElem? (i := 41) rfl), fun _ h => absurd h List.not_mem_nil⟩⟩⟩⟩⟩⟩⟩⟩⟩⟩⟩⟩⟩⟩⟩⟩⟩⟩⟩⟩⟩⟩⟩⟩
theorem i_r42 : ∀ w ∈ wsL_law_r42, w ∈ lw_tbl :=
  List.forall_mem_cons.mpr ⟨j_4 (List.mem_of_getElem? (i := 42) rfl),
  List.forall_mem_cons.mpr ⟨j_4 (List.mem_of_getElem? (i := 43) rfl),
  List.forall_mem_cons.mpr ⟨j_6 (List.mem_of_getElem? (i := 113) rfl),
  List.forall_mem_cons.mpr ⟨j_6 (List.mem_of_getElem? (i := 114) rfl),
  List.forall_mem_cons.mpr ⟨j_6 (List.mem_of_getElem? (i := 115) rfl),
  List.forall_mem_cons.mpr ⟨j_6 (List.mem_of_getElem? (i := 116) rfl),
  List.forall_mem_cons.mpr ⟨j_4 (List.mem_of_getElem? (i := 44) rfl),
  List.forall_mem_cons.mpr ⟨j_4 (List.mem_of_getElem? (i := 45) rfl),
  List.forall_mem_cons.mpr ⟨j_4 (List.mem_of_getElem? (i := 46) rfl),
  List.forall_mem_cons.mpr ⟨j_4 (List.mem_of_getElem? (i := 47) rfl),
  List.forall_mem_cons.mpr ⟨j_4 (List.mem_of_getElem? (i := 48) rfl),
  List.forall_mem_cons.mpr ⟨j_4 (List.mem_of_getElem? (i := 49) rfl),
  List.forall_mem_cons.mpr ⟨j_4 (List.mem_of_getElem? (i := 50) rfl),
  List.forall_mem_cons.mpr ⟨j_4 (List.mem_of_getElem? (i := 51) rfl),
  List.forall_mem_cons.mpr ⟨j_4 (List.mem_of_getElem? (i := 52) rfl),
  List.forall_mem_cons.mpr ⟨j_4 (List.mem_of_getElem? (i := 53) rfl),
  List.forall_mem_cons.mpr ⟨j_4 (List.mem_of_getElem? (i := 54) rfl),
  List.forall_mem_cons.mpr ⟨j_4 (List.mem_of_getElem? (i := 55) rfl),
  List.forall_mem_cons.mpr ⟨j_4 (List.mem_of_getElem? (i := 56) rfl),
  List.forall_mem_cons.mpr ⟨j_4 (List.mem_of_getElem? (i := 57) rfl),
  List.forall_mem_cons.mpr ⟨j_4 (List.mem_of_getElem? (i := 58) rfl),
  List.forall_mem_cons.mpr ⟨j_6 (List.mem_of_getElem? (i := 117) rfl),
  List.forall_mem_cons.mpr ⟨j_6 (List.mem_of_getElem? (i := 118) rfl),
  List.forall_mem_cons.mpr ⟨j_6 (List.mem_of_getElem? (i := 119) rfl), fun _ h => absurd h List.not_mem_nil⟩⟩⟩⟩⟩⟩⟩⟩⟩⟩⟩⟩⟩⟩⟩⟩⟩⟩⟩⟩⟩⟩⟩⟩
theorem i_r43 : ∀ w ∈ wsL_law_r43, w ∈ lw_tbl :=
  List.forall_mem_cons.mpr ⟨j_6 (List.mem_of_getElem? (i := 120) rfl),
  List.forall_mem_cons.mpr ⟨j_6 (List.mem_of_getElem? (i := 121) rfl),
  List.forall_mem_cons.mpr ⟨j_4 (List.mem_of_getElem? (i := 60) rfl),
  List.forall_mem_cons.mpr ⟨j_4 (List.mem_of_getElem? (i := 61) rfl),
  List.forall_mem_cons.mpr ⟨j_4 (List.mem_of_getElem? (i := 62) rfl),
  List.forall_mem_cons.mpr ⟨j_4 (List.mem_of_getElem? (i := 63) rfl),
  List.forall_mem_cons.mpr ⟨j_4 (List.mem_of_getElem? (i := 64) rfl),
  List.forall_mem_cons.mpr ⟨j_4 (List.mem_of_getElem? (i := 65) rfl),
  List.forall_mem_cons.mpr ⟨j_4 (List.mem_of_getElem? (i := 66) rfl),
  List.forall_mem_cons.mpr ⟨j_4 (List.mem_of_getElem? (i := 67) rfl),
  List.forall_mem_cons.mpr ⟨j_4 (List.mem_of_getElem? (i := 68) rfl),
  List.forall_mem_cons.mpr ⟨j_4 (List.mem_of_getElem? (i := 70) rfl),
  List.forall_mem_cons.mpr ⟨j_0 (List.mem_of_getElem? (i := 20) rfl),
  List.forall_mem_cons.mpr ⟨j_4 (List.mem_of_getElem? (i := 71) rfl),
  List.forall_mem_cons.mpr ⟨j_4 (List.mem_of_getElem? (i := 72) rfl),
  List.forall_mem_cons.mpr ⟨j_4 (List.mem_of_getElem? (i := 73) rfl),
  List.forall_mem_cons.mpr ⟨j_4 (List.mem_of_getElem? (i := 74) rfl),
  List.forall_mem_cons.mpr ⟨j_4 (List.mem_of_getElem? (i := 75) rfl),
  List.forall_mem_cons.mpr ⟨j_6 (List.mem_of_getElem? (i := 122) rfl),
  List.forall_mem_cons.mpr ⟨j_6 (List.mem_of_getElem? (i := 123) rfl),
  List.forall_mem_cons.mpr ⟨j_6 (List.mem_of_getElem? (i := 124) rfl),
  List.forall_mem_cons.mpr ⟨j_6 (List.mem_of_getElem? (i := 125) rfl),
  List.forall_mem_cons.mpr ⟨j_4 (List.mem_of_getElem? (i := 76) rfl),
  List.forall_mem_cons.mpr ⟨j_4 (List.mem_of_getElem? (i := 77) rfl), fun _ h => absurd h List.not_mem_nil⟩⟩⟩⟩⟩⟩⟩⟩⟩⟩⟩⟩⟩⟩⟩⟩⟩⟩⟩⟩⟩⟩⟩⟩
theorem i_r44 : ∀ w ∈ wsL_law_r44, w ∈ lw_tbl :=
  List.forall_mem_cons.mpr ⟨j_4 (List.mem_of_getElem? (i := 78) rfl),
  List.forall_mem_cons.mpr ⟨j_4 (List.mem_of_getElem? (i := 79) rfl),
  List.forall_mem_cons.mpr ⟨j_4 (List.mem_of_getElem? (i := 80) rfl),
  List.forall_mem_cons.mpr ⟨j_4 (List.mem_of_getElem? (i := 81) rfl),
  List.forall_mem_cons.mpr ⟨j_4 (List.mem_of_getElem? (i := 82) rfl),
  List.forall_mem_cons.mpr ⟨j_4 (List.mem_of_getElem? (i := 83) rfl),
  List.forall_mem_cons.mpr ⟨j_1 (List.mem_of_getElem? (i := 223) rfl),
  List.forall_mem_cons.mpr ⟨j_4 (List.mem_of_getElem? (i := 84) rfl),
  List.forall_mem_cons.mpr ⟨j_4 (List.mem_of_getElem? (i := 86) rfl),
  List.forall_mem_cons.mpr ⟨j_0 (List.mem_of_getElem? (i := 21) rfl),
  List.forall_mem_cons.mpr ⟨j_4 (List.mem_of_getElem? (i := 87) rfl),
  List.forall_mem_cons.mpr ⟨j_6 (List.mem_of_getElem? (i := 126) rfl),
  List.forall_mem_cons.mpr ⟨j_6 (List.mem_of_getElem? (i := 127) rfl),
  List.forall_mem_cons.mpr ⟨j_6 (List.mem_of_getElem? (i := 128) rfl),
  List.forall_mem_cons.mpr ⟨j_6 (List.mem_of_getElem? (i := 129) rfl),
  List.forall_mem_cons.mpr ⟨j_4 (List.mem_of_getElem? (i := 88) rfl),
  List.forall_mem_cons.mpr ⟨j_4 (List.mem_of_getElem? (i := 89) rfl),
  List.forall_mem_cons.mpr ⟨j_4 (List.mem_of_getElem? (i := 90) rfl),
  List.forall_mem_cons.mpr ⟨j_4 (List.mem_of_getElem? (i := 91) rfl),
  List.forall_mem_cons.mpr ⟨j_6 (List.mem_of_getElem? (i := 130) rfl),
  List.forall_mem_cons.mpr ⟨j_6 (List.mem_of_getElem? (i := 131) rfl),
  List.forall_mem_cons.mpr ⟨j_6 (List.mem_of_getElem? (i := 132) rfl),
  List.forall_mem_cons.mpr ⟨j_6 (List.mem_of_getElem? (i := 133) rfl),
  List.forall_mem_cons.mpr ⟨j_4 (List.mem_of_getElem? (i := 92) rfl), fun _ h => absurd h List.not_mem_nil⟩⟩⟩⟩⟩⟩⟩⟩⟩⟩⟩⟩⟩⟩⟩⟩⟩⟩⟩⟩⟩⟩⟩⟩
theorem i_r45 : ∀ w ∈ wsL_law_r45, w ∈ lw_tbl :=
  List.forall_mem_cons.mpr ⟨j_4 (List.mem_of_getElem? (i := 93) rfl),
  List.forall_mem_cons.mpr ⟨j_4 (List.mem_of_getElem? (i := 94) rfl),
  List.forall_mem_cons.mpr ⟨j_4 (List.mem_of_getElem? (i := 95) rfl),
  List.forall_mem_cons.mpr ⟨j_6 (List.mem_of_getElem? (i := 134) rfl),
  List.forall_mem_cons.mpr ⟨j_6 (List.mem_of_getElem? (i := 135) rfl),
  List.forall_mem_cons.mpr ⟨j_6 (List.mem_of_getElem? (i := 136) rfl),
  List.forall_mem_cons.mpr ⟨j_6 (List.mem_of_getElem? (i := 137) rfl), fun _ h => absurd h List.not_mem_nil⟩⟩⟩⟩⟩⟩⟩
theorem i_x11 : ∀ w ∈ wsX110, w ∈ lw_tbl := fun w h => by
  obtain ⟨k, hk, rfl⟩ := List.mem_map.mp h
  have hk := List.mem_range.mp hk
  match k, hk with
  | 0, _ => exact j_2 (List.mem_of_getElem? (i := 52) rfl)
  | 1, _ => exact j_2 (List.mem_of_getElem? (i := 54) rfl)
  | 2, _ => exact j_2 (List.mem_of_getElem? (i := 56) rfl)
  | 3, _ => exact j_2 (List.mem_of_getElem? (i := 58) rfl)
  | 4, _ => exact j_2 (List.mem_of_getElem? (i := 60) rfl)
  | 5, _ => exact j_2 (List.mem_of_getElem? (i := 62) rfl)
  | 6, _ => exact j_2 (List.mem_of_getElem? (i := 64) rfl)
  | n + 7, h => exact absurd h (by omega)
theorem i_x12 : ∀ w ∈ wsX120, w ∈ lw_tbl := fun w h => by
  obtain ⟨k, hk, rfl⟩ := List.mem_map.mp h
  have hk := List.mem_range.mp hk
  match k, hk with
  | 0, _ => exact j_4 (List.mem_of_getElem? (i := 232) rfl)
  | 1, _ => exact j_4 (List.mem_of_getElem? (i := 234) rfl)
  | 2, _ => exact j_4 (List.mem_of_getElem? (i := 236) rfl)
  | 3, _ => exact j_4 (List.mem_of_getElem? (i := 238) rfl)
  | 4, _ => exact j_5 (List.mem_of_getElem? (i := 0) rfl)
  | 5, _ => exact j_5 (List.mem_of_getElem? (i := 2) rfl)
  | 6, _ => exact j_5 (List.mem_of_getElem? (i := 4) rfl)
  | 7, _ => exact j_5 (List.mem_of_getElem? (i := 6) rfl)
  | 8, _ => exact j_5 (List.mem_of_getElem? (i := 8) rfl)
  | 9, _ => exact j_5 (List.mem_of_getElem? (i := 10) rfl)
  | 10, _ => exact j_5 (List.mem_of_getElem? (i := 12) rfl)
  | 11, _ => exact j_5 (List.mem_of_getElem? (i := 14) rfl)
  | 12, _ => exact j_5 (List.mem_of_getElem? (i := 16) rfl)
  | 13, _ => exact j_5 (List.mem_of_getElem? (i := 18) rfl)
  | 14, _ => exact j_5 (List.mem_of_getElem? (i := 20) rfl)
  | 15, _ => exact j_5 (List.mem_of_getElem? (i := 22) rfl)
  | 16, _ => exact j_5 (List.mem_of_getElem? (i := 24) rfl)
  | 17, _ => exact j_5 (List.mem_of_getElem? (i := 26) rfl)
  | 18, _ => exact j_5 (List.mem_of_getElem? (i := 28) rfl)
  | 19, _ => exact j_5 (List.mem_of_getElem? (i := 30) rfl)
  | 20, _ => exact j_5 (List.mem_of_getElem? (i := 32) rfl)
  | 21, _ => exact j_5 (List.mem_of_getElem? (i := 34) rfl)
  | 22, _ => exact j_5 (List.mem_of_getElem? (i := 36) rfl)
  | 23, _ => exact j_5 (List.mem_of_getElem? (i := 38) rfl)
  | 24, _ => exact j_5 (List.mem_of_getElem? (i := 40) rfl)
  | 25, _ => exact j_5 (List.mem_of_getElem? (i := 42) rfl)
  | 26, _ => exact j_5 (List.mem_of_getElem? (i := 44) rfl)
  | 27, _ => exact j_5 (List.mem_of_getElem? (i := 46) rfl)
  | 28, _ => exact j_5 (List.mem_of_getElem? (i := 48) rfl)
  | 29, _ => exact j_5 (List.mem_of_getElem? (i := 50) rfl)
  | 30, _ => exact j_5 (List.mem_of_getElem? (i := 52) rfl)
  | 31, _ => exact j_5 (List.mem_of_getElem? (i := 54) rfl)
  | 32, _ => exact j_5 (List.mem_of_getElem? (i := 56) rfl)
  | 33, _ => exact j_5 (List.mem_of_getElem? (i := 58) rfl)
  | 34, _ => exact j_5 (List.mem_of_getElem? (i := 60) rfl)
  | 35, _ => exact j_5 (List.mem_of_getElem? (i := 62) rfl)
  | 36, _ => exact j_5 (List.mem_of_getElem? (i := 64) rfl)
  | 37, _ => exact j_5 (List.mem_of_getElem? (i := 66) rfl)
  | 38, _ => exact j_5 (List.mem_of_getElem? (i := 68) rfl)
  | 39, _ => exact j_5 (List.mem_of_getElem? (i := 70) rfl)
  | 40, _ => exact j_5 (List.mem_of_getElem? (i := 72) rfl)
  | 41, _ => exact j_5 (List.mem_of_getElem? (i := 74) rfl)
  | 42, _ => exact j_5 (List.mem_of_getElem? (i := 76) rfl)
  | 43, _ => exact j_5 (List.mem_of_getElem? (i := 78) rfl)
  | 44, _ => exact j_5 (List.mem_of_getElem? (i := 80) rfl)
  | 45, _ => exact j_5 (List.mem_of_getElem? (i := 82) rfl)
  | 46, _ => exact j_5 (List.mem_of_getElem? (i := 84) rfl)
  | 47, _ => exact j_5 (List.mem_of_getElem? (i := 86) rfl)
  | 48, _ => exact j_5 (List.mem_of_getElem? (i := 88) rfl)
  | 49, _ => exact j_5 (List.mem_of_getElem? (i := 90) rfl)
  | 50, _ => exact j_5 (List.mem_of_getElem? (i := 92) rfl)
  | 51, _ => exact j_5 (List.mem_of_getElem? (i := 94) rfl)
  | 52, _ => exact j_5 (List.mem_of_getElem? (i := 96) rfl)
  | 53, _ => exact j_5 (List.mem_of_getElem? (i := 98) rfl)
  | 54, _ => exact j_5 (List.mem_of_getElem? (i := 100) rfl)
  | 55, _ => exact j_5 (List.mem_of_getElem? (i := 102) rfl)
  | 56, _ => exact j_5 (List.mem_of_getElem? (i := 104) rfl)
  | 57, _ => exact j_5 (List.mem_of_getElem? (i := 106) rfl)
  | n + 58, h => exact absurd h (by omega)
theorem i_x9 : ∀ w ∈ wsX90, w ∈ lw_tbl := fun w h => by
  obtain ⟨k, hk, rfl⟩ := List.mem_map.mp h
  have hk := List.mem_range.mp hk
  match k, hk with
  | 0, _ => exact j_1 (List.mem_of_getElem? (i := 182) rfl)
  | 1, _ => exact j_1 (List.mem_of_getElem? (i := 184) rfl)
  | 2, _ => exact j_1 (List.mem_of_getElem? (i := 186) rfl)
  | 3, _ => exact j_1 (List.mem_of_getElem? (i := 188) rfl)
  | n + 4, h => exact absurd h (by omega)
theorem i_x10 : ∀ w ∈ wsX100, w ∈ lw_tbl := fun w h => by
  obtain ⟨k, hk, rfl⟩ := List.mem_map.mp h
  have hk := List.mem_range.mp hk
  match k, hk with
  | 0, _ => exact j_1 (List.mem_of_getElem? (i := 228) rfl)
  | 1, _ => exact j_1 (List.mem_of_getElem? (i := 230) rfl)
  | 2, _ => exact j_1 (List.mem_of_getElem? (i := 232) rfl)
  | 3, _ => exact j_1 (List.mem_of_getElem? (i := 234) rfl)
  | 4, _ => exact j_1 (List.mem_of_getElem? (i := 236) rfl)
  | n + 5, h => exact absurd h (by omega)
theorem i_x7 : ∀ w ∈ wsX70, w ∈ lw_tbl := fun w h => by
  obtain ⟨k, hk, rfl⟩ := List.mem_map.mp h
  have hk := List.mem_range.mp hk
  match k, hk with
  | 0, _ => exact j_2 (List.mem_of_getElem? (i := 20) rfl)
  | 1, _ => exact j_2 (List.mem_of_getElem? (i := 22) rfl)
  | 2, _ => exact j_2 (List.mem_of_getElem? (i := 24) rfl)
  | 3, _ => exact j_2 (List.mem_of_getElem? (i := 26) rfl)
  | 4, _ => exact j_2 (List.mem_of_getElem? (i := 28) rfl)
  | 5, _ => exact j_2 (List.mem_of_getElem? (i := 30) rfl)
  | 6, _ => exact j_2 (List.mem_of_getElem? (i := 32) rfl)
  | 7, _ => exact j_2 (List.mem_of_getElem? (i := 34) rfl)
  | 8, _ => exact j_2 (List.mem_of_getElem? (i := 36) rfl)
  | 9, _ => exact j_2 (List.mem_of_getElem? (i := 38) rfl)
  | 10, _ => exact j_2 (List.mem_of_getElem? (i := 40) rfl)
  | 11, _ => exact j_2 (List.mem_of_getElem? (i := 42) rfl)
  | n + 12, h => exact absurd h (by omega)
theorem i_x4 : ∀ w ∈ wsX40, w ∈ lw_tbl := fun w h => by
  obtain ⟨k, hk, rfl⟩ := List.mem_map.mp h
  have hk := List.mem_range.mp hk
  match k, hk with
  | 0, _ => exact j_1 (List.mem_of_getElem? (i := 51) rfl)
  | 1, _ => exact j_1 (List.mem_of_getElem? (i := 53) rfl)
  | 2, _ => exact j_1 (List.mem_of_getElem? (i := 55) rfl)
  | 3, _ => exact j_1 (List.mem_of_getElem? (i := 57) rfl)
  | 4, _ => exact j_1 (List.mem_of_getElem? (i := 59) rfl)
  | 5, _ => exact j_1 (List.mem_of_getElem? (i := 61) rfl)
  | 6, _ => exact j_1 (List.mem_of_getElem? (i := 63) rfl)
  | 7, _ => exact j_1 (List.mem_of_getElem? (i := 65) rfl)
  | 8, _ => exact j_1 (List.mem_of_getElem? (i := 67) rfl)
  | n + 9, h => exact absurd h (by omega)
theorem i_x8 : ∀ w ∈ wsX80, w ∈ lw_tbl := fun w h => by
  obtain ⟨k, hk, rfl⟩ := List.mem_map.mp h
  have hk := List.mem_range.mp hk
  match k, hk with
  | 0, _ => exact j_1 (List.mem_of_getElem? (i := 83) rfl)
  | 1, _ => exact j_1 (List.mem_of_getElem? (i := 85) rfl)
  | 2, _ => exact j_1 (List.mem_of_getElem? (i := 87) rfl)
  | 3, _ => exact j_1 (List.mem_of_getElem? (i := 89) rfl)
  | 4, _ => exact j_1 (List.mem_of_getElem? (i := 91) rfl)
  | n + 5, h => exact absurd h (by omega)
theorem i_x5 : ∀ w ∈ wsX50, w ∈ lw_tbl := fun w h => by
  obtain ⟨k, hk, rfl⟩ := List.mem_map.mp h
  have hk := List.mem_range.mp hk
  match k, hk with
  | 0, _ => exact j_1 (List.mem_of_getElem? (i := 105) rfl)
  | 1, _ => exact j_1 (List.mem_of_getElem? (i := 107) rfl)
  | 2, _ => exact j_1 (List.mem_of_getElem? (i := 109) rfl)
  | 3, _ => exact j_1 (List.mem_of_getElem? (i := 111) rfl)
  | n + 4, h => exact absurd h (by omega)
theorem i_x0 : ∀ w ∈ wsX00, w ∈ lw_tbl := fun w h => by
  obtain ⟨k, hk, rfl⟩ := List.mem_map.mp h
  have hk := List.mem_range.mp hk
  match k, hk with
  | 0, _ => exact j_1 (List.mem_of_getElem? (i := 160) rfl)
  | 1, _ => exact j_1 (List.mem_of_getElem? (i := 162) rfl)
  | 2, _ => exact j_1 (List.mem_of_getElem? (i := 164) rfl)
  | 3, _ => exact j_1 (List.mem_of_getElem? (i := 166) rfl)
  | n + 4, h => exact absurd h (by omega)
theorem i_x2 : ∀ w ∈ wsX20, w ∈ lw_tbl := fun w h => by
  obtain ⟨k, hk, rfl⟩ := List.mem_map.mp h
  have hk := List.mem_range.mp hk
  match k, hk with
  | 0, _ => exact j_1 (List.mem_of_getElem? (i := 130) rfl)
  | 1, _ => exact j_1 (List.mem_of_getElem? (i := 132) rfl)
  | 2, _ => exact j_1 (List.mem_of_getElem? (i := 134) rfl)
  | n + 3, h => exact absurd h (by omega)
theorem i_x6 : ∀ w ∈ wsX60, w ∈ lw_tbl := fun w h => by
  obtain ⟨k, hk, rfl⟩ := List.mem_map.mp h
  have hk := List.mem_range.mp hk
  match k, hk with
  | 0, _ => exact j_1 (List.mem_of_getElem? (i := 147) rfl)
  | 1, _ => exact j_1 (List.mem_of_getElem? (i := 149) rfl)
  | 2, _ => exact j_1 (List.mem_of_getElem? (i := 151) rfl)
  | 3, _ => exact j_1 (List.mem_of_getElem? (i := 153) rfl)
  | n + 4, h => exact absurd h (by omega)
theorem i_x3 : ∀ w ∈ wsX30, w ∈ lw_tbl := fun w h => by
  obtain ⟨k, hk, rfl⟩ := List.mem_map.mp h
  have hk := List.mem_range.mp hk
  match k, hk with
  | 0, _ => exact j_1 (List.mem_of_getElem? (i := 211) rfl)
  | 1, _ => exact j_1 (List.mem_of_getElem? (i := 213) rfl)
  | 2, _ => exact j_1 (List.mem_of_getElem? (i := 215) rfl)
  | 3, _ => exact j_1 (List.mem_of_getElem? (i := 217) rfl)
  | 4, _ => exact j_1 (List.mem_of_getElem? (i := 219) rfl)
  | n + 5, h => exact absurd h (by omega)
theorem i_law : ∀ w ∈ wsL_law, w ∈ lw_tbl :=
  List.forall_mem_append.mpr ⟨List.forall_mem_append.mpr ⟨List.forall_mem_append.mpr ⟨List.forall_mem_append.mpr ⟨List.forall_mem_append.mpr ⟨List.forall_mem_append.mpr ⟨List.forall_mem_append.mpr ⟨List.forall_mem_append.mpr ⟨List.forall_mem_append.mpr ⟨List.forall_mem_append.mpr ⟨List.forall_mem_append.mpr ⟨List.forall_mem_append.mpr ⟨List.forall_mem_append.mpr ⟨List.forall_mem_append.mpr ⟨i_r1, List.forall_mem_append.mpr ⟨i_r2, List.forall_mem_append.mpr ⟨i_r3, List.forall_mem_append.mpr ⟨i_r4, List.forall_mem_append.mpr ⟨i_r5, List.forall_mem_append.mpr ⟨i_r6, List.forall_mem_append.mpr ⟨i_r7, List.forall_mem_append.mpr ⟨i_r8, List.forall_mem_append.mpr ⟨i_r9, List.forall_mem_append.mpr ⟨i_r10, List.forall_mem_append.mpr ⟨i_r11, List.forall_mem_append.mpr ⟨i_r12, List.forall_mem_append.mpr ⟨i_r13, List.forall_mem_append.mpr ⟨i_r14, List.forall_mem_append.mpr ⟨i_r15, List.forall_mem_append.mpr ⟨i_r16, List.forall_mem_append.mpr ⟨i_r17, List.forall_mem_append.mpr ⟨i_r18, List.forall_mem_append.mpr ⟨i_r19, List.forall_mem_append.mpr ⟨i_r20, List.forall_mem_append.mpr ⟨i_r21, List.forall_mem_append.mpr ⟨i_r22, List.forall_mem_append.mpr ⟨i_r23, List.forall_mem_append.mpr ⟨i_r24, List.forall_mem_append.mpr ⟨i_r25, List.forall_mem_append.mpr ⟨i_r26, List.forall_mem_append.mpr ⟨i_r27, List.forall_mem_append.mpr ⟨i_r28, List.forall_mem_append.mpr ⟨i_r29, List.forall_mem_append.mpr ⟨i_r30, List.forall_mem_append.mpr ⟨i_r31, List.forall_mem_append.mpr ⟨i_r32, List.forall_mem_append.mpr ⟨i_r33, List.forall_mem_append.mpr ⟨i_r34, List.forall_mem_append.mpr ⟨i_r35, List.forall_mem_append.mpr ⟨i_r36, List.forall_mem_append.mpr ⟨i_r37, List.forall_mem_append.mpr ⟨i_r38, List.forall_mem_append.mpr ⟨i_r39, List.forall_mem_append.mpr ⟨i_r40, List.forall_mem_append.mpr ⟨i_r41, List.forall_mem_append.mpr ⟨i_r42, List.forall_mem_append.mpr ⟨i_r43, List.forall_mem_append.mpr ⟨i_r44, i_r45⟩⟩⟩⟩⟩⟩⟩⟩⟩⟩⟩⟩⟩⟩⟩⟩⟩⟩⟩⟩⟩⟩⟩⟩⟩⟩⟩⟩⟩⟩⟩⟩⟩⟩⟩⟩⟩⟩⟩⟩⟩⟩⟩⟩, i_x11⟩, i_x12⟩, i_x9⟩, i_x10⟩, i_x7⟩, i_x4⟩, i_x8⟩, i_x5⟩, i_x0⟩, i_x2⟩, i_x6⟩, i_x3⟩, fun _ h => absurd h List.not_mem_nil⟩
