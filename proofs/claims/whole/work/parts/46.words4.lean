set_option maxRecDepth 20000 in
theorem wsL_x4 : ∀ w ∈ wsX40, w ∈ lw_tbl := fun w h => (goodIn_p wsX40 [] (by decide +kernel) (by decide +kernel) w h).1
set_option maxRecDepth 20000 in
theorem wsL_x5 : ∀ w ∈ wsX50, w ∈ lw_tbl := fun w h => (goodIn_p wsX50 [] (by decide +kernel) (by decide +kernel) w h).1
set_option maxRecDepth 20000 in
theorem wsL_x1 : ∀ w ∈ wsX10, w ∈ lw_tbl := fun w h => (goodIn_p wsX10 [] (by decide +kernel) (by decide +kernel) w h).1
set_option maxRecDepth 20000 in
theorem wsL_x2 : ∀ w ∈ wsX20, w ∈ lw_tbl := fun w h => (goodIn_p wsX20 [] (by decide +kernel) (by decide +kernel) w h).1
set_option maxRecDepth 20000 in
theorem wsL_x3 : ∀ w ∈ wsX30, w ∈ lw_tbl := fun w h => (goodIn_p wsX30 [] (by decide +kernel) (by decide +kernel) w h).1
set_option maxRecDepth 20000 in
theorem wsL_x0 : ∀ w ∈ wsX00, w ∈ lw_tbl := fun w h => (goodIn_p wsX00 [] (by decide +kernel) (by decide +kernel) w h).1
theorem wsL_law_in : ∀ w ∈ wsL_law, w ∈ lw_tbl := fun w h => by
  unfold wsL_law at h
  simp only [List.mem_append] at h
  rcases h with (((((((h | h | h | h | h | h | h | h | h | h | h | h | h | h | h | h | h | h) | h) | h) | h) | h) | h) | h) | h
  · exact wsL_i1 w h
  · exact wsL_i2 w h
  · exact wsL_i3 w h
  · exact wsL_i4 w h
  · exact wsL_i5 w h
  · exact wsL_i6 w h
  · exact wsL_i7 w h
  · exact wsL_i8 w h
  · exact wsL_i9 w h
  · exact wsL_i10 w h
  · exact wsL_i11 w h
  · exact wsL_i12 w h
  · exact wsL_i13 w h
  · exact wsL_i14 w h
  · exact wsL_i15 w h
  · exact wsL_i16 w h
  · exact wsL_i17 w h
  · exact wsL_i18 w h
  · exact wsL_x4 w h
  · exact wsL_x5 w h
  · exact wsL_x1 w h
  · exact wsL_x2 w h
  · exact wsL_x3 w h
  · exact wsL_x0 w h
  · cases h
