set_option maxRecDepth 20000 in
theorem ggX11_undo_X11_asks : GoodIn wsX11_undo wsX11_asks := goodIn_r _ [8, 9, 10, 11, 12, 13, 14, 15, 16, 17, 18, 19, 20, 21, 22, 23, 24, 25, 26, 27, 28, 29, 30, 31, 32, 33, 34, 35] rfl (by decide +kernel)
set_option maxRecDepth 20000 in
theorem gX11_undo_X11_asks : GoodIn wsX11_undo (wsV RX11 66 RX11 yX11_asks wsX11_asks) := goodIn_app (goodIn_of _ (by decide +kernel)) ggX11_undo_X11_asks
set_option maxRecDepth 20000 in
theorem ggX11_takeSnapshot_X11_says : GoodIn wsX11_takeSnapshot wsX11_says := goodIn_r _ [8, 9, 10, 11, 12, 13, 14, 15, 16, 17, 18, 19, 20, 21, 22, 23, 24, 25, 26, 27, 28, 29, 30, 31, 32, 33, 34, 35] rfl (by decide +kernel)
set_option maxRecDepth 20000 in
theorem gX11_takeSnapshot_X11_says : GoodIn wsX11_takeSnapshot (wsV RX11 74 RX11 yX11_says wsX11_says) := goodIn_app (goodIn_of _ (by decide +kernel)) ggX11_takeSnapshot_X11_says
set_option maxRecDepth 20000 in
theorem ggX11_restoreSnapshot_X11_asks : GoodIn wsX11_restoreSnapshot wsX11_asks := goodIn_r _ [8, 9, 16, 17, 18, 19, 20, 21, 22, 23, 24, 25, 26, 27, 28, 29, 30, 31, 32, 33, 34, 35, 36, 37, 38, 39, 40, 41] rfl (by decide +kernel)
set_option maxRecDepth 20000 in
theorem gX11_restoreSnapshot_X11_asks : GoodIn wsX11_restoreSnapshot (wsV RX11 66 RX11 yX11_asks wsX11_asks) := goodIn_app (goodIn_of _ (by decide +kernel)) ggX11_restoreSnapshot_X11_asks
set_option maxRecDepth 20000 in
theorem ggX11_restoreSnapshot_X11_record : GoodIn wsX11_restoreSnapshot wsX11_record := goodIn_r _ [13, 14, 15, 2, 16, 17, 18, 19, 20, 21, 22, 23, 24, 25, 26, 27, 28, 29, 30, 31, 32, 33, 34, 35, 36, 37, 38, 39, 40, 41] rfl (by decide +kernel)
set_option maxRecDepth 20000 in
theorem gX11_restoreSnapshot_X11_record : GoodIn wsX11_restoreSnapshot (wsV RX11 78 RX11 yX11_record wsX11_record) := goodIn_app (goodIn_of _ (by decide +kernel)) ggX11_restoreSnapshot_X11_record
set_option maxRecDepth 20000 in
theorem ggX11_recordedStates_X11_says : GoodIn wsX11_recordedStates wsX11_says := goodIn_r _ [6, 7, 8, 9, 10, 11, 12, 13, 14, 15, 16, 17, 18, 19, 20, 21, 22, 23, 24, 25, 26, 27, 28, 29, 30, 31, 32, 33] rfl (by decide +kernel)
set_option maxRecDepth 20000 in
theorem gX11_recordedStates_X11_says : GoodIn wsX11_recordedStates (wsV RX11 74 RX11 yX11_says wsX11_says) := goodIn_app (goodIn_of _ (by decide +kernel)) ggX11_recordedStates_X11_says
set_option maxRecDepth 20000 in
theorem ggX11_type_X11_asks : GoodIn wsX11_type wsX11_asks := goodIn_r _ [7, 8, 9, 10, 11, 12, 13, 14, 15, 16, 17, 18, 19, 20, 21, 22, 23, 24, 25, 26, 27, 28, 29, 30, 31, 32, 33, 34] rfl (by decide +kernel)
set_option maxRecDepth 20000 in
theorem gX11_type_X11_asks : GoodIn wsX11_type (wsV RX11 66 RX11 yX11_asks wsX11_asks) := goodIn_app (goodIn_of _ (by decide +kernel)) ggX11_type_X11_asks
set_option maxRecDepth 20000 in
theorem ggX11_clearText_X11_says : GoodIn wsX11_clearText wsX11_says := goodIn_r _ [6, 7, 8, 9, 10, 11, 12, 13, 14, 15, 16, 17, 18, 19, 20, 21, 22, 23, 24, 25, 26, 27, 28, 29, 30, 31, 32, 33] rfl (by decide +kernel)
set_option maxRecDepth 20000 in
theorem gX11_clearText_X11_says : GoodIn wsX11_clearText (wsV RX11 74 RX11 yX11_says wsX11_says) := goodIn_app (goodIn_of _ (by decide +kernel)) ggX11_clearText_X11_says
set_option maxRecDepth 20000 in
theorem ggX11_comes_X11_node : GoodIn wsX11_comes wsX11_node := goodIn_r _ [7, 8, 9, 10, 11, 12, 13, 14, 15, 16, 17, 18, 19, 20, 21, 22, 23, 24, 25, 26, 27, 28, 29, 30, 31, 32, 33, 34, 35, 36] rfl (by decide +kernel)
set_option maxRecDepth 20000 in
theorem gX11_comes_X11_node : GoodIn wsX11_comes (wsV RX11 90 RX11 yX11_node wsX11_node) := goodIn_app (goodIn_of _ (by decide +kernel)) ggX11_comes_X11_node
set_option maxRecDepth 20000 in
theorem ggX11_atom_X11_last : GoodIn wsX11_atom wsX11_last := goodIn_r _ [5, 6, 7, 19, 20, 21, 22, 23, 24, 25, 26, 27, 28, 29, 30, 31, 32, 33, 34, 35, 36, 37, 38, 39, 40, 41, 42, 43, 44] rfl (by decide +kernel)
set_option maxRecDepth 20000 in
theorem gX11_atom_X11_last : GoodIn wsX11_atom (wsV RX11 94 RX11 yX11_last wsX11_last) := goodIn_app (goodIn_of _ (by decide +kernel)) ggX11_atom_X11_last
set_option maxRecDepth 20000 in
theorem ggX11_atom_X11_comes : GoodIn wsX11_atom wsX11_comes := goodIn_r _ [11, 6, 7, 12, 13, 14, 4, 15, 16, 17, 18, 19, 20, 21, 22, 23, 24, 25, 26, 27, 28, 29, 30, 31, 32, 33, 34, 35, 36, 37, 38, 39, 40, 41, 42, 43, 44] rfl (by decide +kernel)
set_option maxRecDepth 20000 in
theorem gX11_atom_X11_comes : GoodIn wsX11_atom (wsV RX11 98 RX11 yX11_comes wsX11_comes) := goodIn_app (goodIn_of _ (by decide +kernel)) ggX11_atom_X11_comes
set_option maxRecDepth 20000 in
theorem ggX11_binds_X11_last : GoodIn wsX11_binds wsX11_last := goodIn_r _ [5, 6, 7, 19, 20, 21, 22, 23, 24, 25, 26, 27, 28, 29, 30, 31, 32, 33, 34, 35, 36, 37, 38, 39, 40, 41, 42, 43, 44] rfl (by decide +kernel)
set_option maxRecDepth 20000 in
theorem gX11_binds_X11_last : GoodIn wsX11_binds (wsV RX11 94 RX11 yX11_last wsX11_last) := goodIn_app (goodIn_of _ (by decide +kernel)) ggX11_binds_X11_last
set_option maxRecDepth 20000 in
theorem ggX11_binds_X11_comes : GoodIn wsX11_binds wsX11_comes := goodIn_r _ [11, 6, 7, 12, 13, 14, 4, 15, 16, 17, 18, 19, 20, 21, 22, 23, 24, 25, 26, 27, 28, 29, 30, 31, 32, 33, 34, 35, 36, 37, 38, 39, 40, 41, 42, 43, 44] rfl (by decide +kernel)
set_option maxRecDepth 20000 in
theorem gX11_binds_X11_comes : GoodIn wsX11_binds (wsV RX11 98 RX11 yX11_comes wsX11_comes) := goodIn_app (goodIn_of _ (by decide +kernel)) ggX11_binds_X11_comes
set_option maxRecDepth 20000 in
theorem ggX11_begins_X11_in : GoodIn wsX11_begins wsX11_in := goodIn_r _ [7] rfl (by decide +kernel)
set_option maxRecDepth 20000 in
theorem gX11_begins_X11_in : GoodIn wsX11_begins (va_wsS RX11 101 yX11_in wsX11_in) := goodIn_app (goodIn_of _ (by decide +kernel)) ggX11_begins_X11_in
set_option maxRecDepth 20000 in
theorem ggX11_begins_X11_node : GoodIn wsX11_begins wsX11_node := goodIn_r _ [11, 12, 13, 14, 36, 37, 38, 39, 40, 41, 42, 43, 44, 45, 46, 47, 48, 49, 50, 51, 52, 53, 54, 55, 56, 57, 58, 59, 60, 61] rfl (by decide +kernel)
set_option maxRecDepth 20000 in
theorem gX11_begins_X11_node : GoodIn wsX11_begins (wsV RX11 90 RX11 yX11_node wsX11_node) := goodIn_app (goodIn_of _ (by decide +kernel)) ggX11_begins_X11_node
set_option maxRecDepth 20000 in
theorem ggX11_begins_X11_atom : GoodIn wsX11_begins wsX11_atom := goodIn_r _ [18, 19, 20, 21, 6, 22, 23, 24, 25, 26, 27, 28, 8, 9, 10, 11, 12, 13, 14, 36, 37, 38, 39, 40, 41, 42, 43, 44, 45, 46, 47, 48, 49, 50, 51, 52, 53, 54, 55, 56, 57, 58, 59, 60, 61] rfl (by decide +kernel)
set_option maxRecDepth 20000 in
theorem gX11_begins_X11_atom : GoodIn wsX11_begins (wsV RX11 111 RX11 yX11_atom wsX11_atom) := goodIn_app (goodIn_of _ (by decide +kernel)) ggX11_begins_X11_atom
set_option maxRecDepth 20000 in
theorem ggX11_begins_X11_waitsFor : GoodIn wsX11_begins wsX11_waitsFor := goodIn_r _ [32, 24, 23, 36, 37, 38, 39, 40, 41, 42, 43, 44, 45, 46, 47, 48, 49, 50, 51, 52, 53, 54, 55, 56, 57, 58, 59, 60, 61] rfl (by decide +kernel)
set_option maxRecDepth 20000 in
theorem gX11_begins_X11_waitsFor : GoodIn wsX11_begins (wsV RX11 114 RX11 yX11_waitsFor wsX11_waitsFor) := goodIn_app (goodIn_of _ (by decide +kernel)) ggX11_begins_X11_waitsFor
set_option maxRecDepth 20000 in
theorem ggX11_begins_X11_function : GoodIn wsX11_begins wsX11_function := goodIn_r _ [35] rfl (by decide +kernel)
set_option maxRecDepth 20000 in
theorem gX11_begins_X11_function : GoodIn wsX11_begins (va_wsS RX11 120 yX11_function wsX11_function) := goodIn_app (goodIn_of _ (by decide +kernel)) ggX11_begins_X11_function
set_option maxRecDepth 20000 in
theorem ggX11_endsNumber_X11_node : GoodIn wsX11_endsNumber wsX11_node := goodIn_r _ [7, 8, 9, 10, 25, 26, 27, 28, 29, 30, 31, 32, 33, 34, 35, 36, 37, 38, 39, 40, 41, 42, 43, 44, 45, 46, 47, 48, 49, 50] rfl (by decide +kernel)
set_option maxRecDepth 20000 in
theorem gX11_endsNumber_X11_node : GoodIn wsX11_endsNumber (wsV RX11 90 RX11 yX11_node wsX11_node) := goodIn_app (goodIn_of _ (by decide +kernel)) ggX11_endsNumber_X11_node
set_option maxRecDepth 20000 in
theorem ggX11_endsNumber_X11_atom : GoodIn wsX11_endsNumber wsX11_atom := goodIn_r _ [14, 15, 16, 17, 6, 18, 19, 20, 21, 22, 23, 24, 3, 4, 5, 7, 8, 9, 10, 25, 26, 27, 28, 29, 30, 31, 32, 33, 34, 35, 36, 37, 38, 39, 40, 41, 42, 43, 44, 45, 46, 47, 48, 49, 50] rfl (by decide +kernel)
set_option maxRecDepth 20000 in
theorem gX11_endsNumber_X11_atom : GoodIn wsX11_endsNumber (wsV RX11 111 RX11 yX11_atom wsX11_atom) := goodIn_app (goodIn_of _ (by decide +kernel)) ggX11_endsNumber_X11_atom
set_option maxRecDepth 20000 in
theorem ggX11_follows_X11_binds : GoodIn wsX11_follows wsX11_binds := goodIn_r _ [8, 9, 10, 11, 7, 12, 3, 13, 14, 15, 16, 17, 18, 19, 20, 21, 22, 23, 24, 33, 34, 35, 36, 37, 38, 39, 40, 41, 42, 43, 44, 45, 46, 47, 48, 49, 50, 51, 52, 53, 54, 55, 56, 57, 58] rfl (by decide +kernel)
set_option maxRecDepth 20000 in
theorem gX11_follows_X11_binds : GoodIn wsX11_follows (wsV RX11 123 RX11 yX11_binds wsX11_binds) := goodIn_app (goodIn_of _ (by decide +kernel)) ggX11_follows_X11_binds
set_option maxRecDepth 20000 in
theorem ggX11_follows_X11_last : GoodIn wsX11_follows wsX11_last := goodIn_r _ [12, 3, 13, 33, 34, 35, 36, 37, 38, 39, 40, 41, 42, 43, 44, 45, 46, 47, 48, 49, 50, 51, 52, 53, 54, 55, 56, 57, 58] rfl (by decide +kernel)
set_option maxRecDepth 20000 in
theorem gX11_follows_X11_last : GoodIn wsX11_follows (wsV RX11 94 RX11 yX11_last wsX11_last) := goodIn_app (goodIn_of _ (by decide +kernel)) ggX11_follows_X11_last
set_option maxRecDepth 20000 in
theorem ggX11_follows_X11_comes : GoodIn wsX11_follows wsX11_comes := goodIn_r _ [17, 3, 13, 18, 19, 20, 7, 21, 22, 23, 24, 33, 34, 35, 36, 37, 38, 39, 40, 41, 42, 43, 44, 45, 46, 47, 48, 49, 50, 51, 52, 53, 54, 55, 56, 57, 58] rfl (by decide +kernel)
set_option maxRecDepth 20000 in
theorem gX11_follows_X11_comes : GoodIn wsX11_follows (wsV RX11 98 RX11 yX11_comes wsX11_comes) := goodIn_app (goodIn_of _ (by decide +kernel)) ggX11_follows_X11_comes
set_option maxRecDepth 20000 in
theorem ggX11_follows_X11_atom : GoodIn wsX11_follows wsX11_atom := goodIn_r _ [28, 9, 10, 11, 7, 12, 3, 13, 14, 15, 16, 17, 18, 19, 20, 21, 22, 23, 24, 33, 34, 35, 36, 37, 38, 39, 40, 41, 42, 43, 44, 45, 46, 47, 48, 49, 50, 51, 52, 53, 54, 55, 56, 57, 58] rfl (by decide +kernel)
set_option maxRecDepth 20000 in
theorem gX11_follows_X11_atom : GoodIn wsX11_follows (wsV RX11 111 RX11 yX11_atom wsX11_atom) := goodIn_app (goodIn_of _ (by decide +kernel)) ggX11_follows_X11_atom
set_option maxRecDepth 20000 in
theorem ggX11_follows_X11_waitsFor : GoodIn wsX11_follows wsX11_waitsFor := goodIn_r _ [32, 13, 3, 33, 34, 35, 36, 37, 38, 39, 40, 41, 42, 43, 44, 45, 46, 47, 48, 49, 50, 51, 52, 53, 54, 55, 56, 57, 58] rfl (by decide +kernel)
set_option maxRecDepth 20000 in
theorem gX11_follows_X11_waitsFor : GoodIn wsX11_follows (wsV RX11 114 RX11 yX11_waitsFor wsX11_waitsFor) := goodIn_app (goodIn_of _ (by decide +kernel)) ggX11_follows_X11_waitsFor
set_option maxRecDepth 20000 in
theorem ggX11_reads_X11_begins : GoodIn wsX11_reads wsX11_begins := goodIn_r _ [8, 3, 1, 2, 9, 10, 7, 11, 12, 13, 14, 15, 16, 17, 18, 19, 20, 21, 22, 23, 24, 25, 26, 27, 28, 29, 30, 31, 32, 33, 34, 35, 36, 37, 38, 39, 52, 53, 54, 55, 56, 57, 58, 59, 60, 61, 62, 63, 64, 65, 66, 67, 68, 69, 70, 71, 72, 73, 74, 75, 76, 77] rfl (by decide +kernel)
set_option maxRecDepth 20000 in
theorem gX11_reads_X11_begins : GoodIn wsX11_reads (wsV RX11 127 RX11 yX11_begins wsX11_begins) := goodIn_app (goodIn_of _ (by decide +kernel)) ggX11_reads_X11_begins
set_option maxRecDepth 20000 in
theorem ggX11_reads_X11_in : GoodIn wsX11_reads wsX11_in := goodIn_r _ [11] rfl (by decide +kernel)
set_option maxRecDepth 20000 in
theorem gX11_reads_X11_in : GoodIn wsX11_reads (va_wsS RX11 101 yX11_in wsX11_in) := goodIn_app (goodIn_of _ (by decide +kernel)) ggX11_reads_X11_in
set_option maxRecDepth 20000 in
theorem ggX11_reads_X11_node : GoodIn wsX11_reads wsX11_node := goodIn_r _ [15, 16, 17, 18, 52, 53, 54, 55, 56, 57, 58, 59, 60, 61, 62, 63, 64, 65, 66, 67, 68, 69, 70, 71, 72, 73, 74, 75, 76, 77] rfl (by decide +kernel)
set_option maxRecDepth 20000 in
theorem gX11_reads_X11_node : GoodIn wsX11_reads (wsV RX11 90 RX11 yX11_node wsX11_node) := goodIn_app (goodIn_of _ (by decide +kernel)) ggX11_reads_X11_node
set_option maxRecDepth 20000 in
theorem ggX11_reads_X11_waitsFor : GoodIn wsX11_reads wsX11_waitsFor := goodIn_r _ [36, 28, 27, 52, 53, 54, 55, 56, 57, 58, 59, 60, 61, 62, 63, 64, 65, 66, 67, 68, 69, 70, 71, 72, 73, 74, 75, 76, 77] rfl (by decide +kernel)
set_option maxRecDepth 20000 in
theorem gX11_reads_X11_waitsFor : GoodIn wsX11_reads (wsV RX11 114 RX11 yX11_waitsFor wsX11_waitsFor) := goodIn_app (goodIn_of _ (by decide +kernel)) ggX11_reads_X11_waitsFor
set_option maxRecDepth 20000 in
theorem ggX11_reads_X11_endsNumber : GoodIn wsX11_reads wsX11_endsNumber := goodIn_r _ [43, 1, 3, 12, 13, 14, 7, 15, 16, 17, 18, 19, 20, 21, 22, 23, 24, 25, 26, 27, 28, 29, 30, 31, 32, 52, 53, 54, 55, 56, 57, 58, 59, 60, 61, 62, 63, 64, 65, 66, 67, 68, 69, 70, 71, 72, 73, 74, 75, 76, 77] rfl (by decide +kernel)
set_option maxRecDepth 20000 in
theorem gX11_reads_X11_endsNumber : GoodIn wsX11_reads (wsV RX11 131 RX11 yX11_endsNumber wsX11_endsNumber) := goodIn_app (goodIn_of _ (by decide +kernel)) ggX11_reads_X11_endsNumber
set_option maxRecDepth 20000 in
theorem ggX11_reads_X11_follows : GoodIn wsX11_reads wsX11_follows := goodIn_r _ [47, 1, 2, 27, 48, 49, 50, 7, 51, 23, 24, 25, 26, 28, 29, 30, 31, 32, 12, 13, 14, 15, 16, 17, 18, 19, 20, 21, 22, 33, 34, 35, 36, 52, 53, 54, 55, 56, 57, 58, 59, 60, 61, 62, 63, 64, 65, 66, 67, 68, 69, 70, 71, 72, 73, 74, 75, 76, 77] rfl (by decide +kernel)
set_option maxRecDepth 20000 in
theorem gX11_reads_X11_follows : GoodIn wsX11_reads (wsV RX11 134 RX11 yX11_follows wsX11_follows) := goodIn_app (goodIn_of _ (by decide +kernel)) ggX11_reads_X11_follows
set_option maxRecDepth 20000 in
theorem ggX11_readText_X11_reads : GoodIn wsX11_readText wsX11_reads := goodIn_r _ [11, 3, 4, 12, 13, 14, 15, 10, 16, 17, 18, 19, 20, 21, 22, 23, 24, 1, 25, 26, 27, 28, 29, 30, 31, 32, 33, 2, 34, 35, 36, 37, 38, 39, 40, 41, 42, 43, 44, 45, 46, 47, 48, 49, 50, 51, 52, 53, 54, 55, 56, 57, 58, 59, 60, 61, 62, 63, 64, 65, 66, 67, 68, 69, 70, 71, 72, 73, 74, 75, 76, 77, 78, 79, 80, 81, 82, 83] rfl (by decide +kernel)
set_option maxRecDepth 20000 in
theorem gX11_readText_X11_reads : GoodIn wsX11_readText (wsV RX11 137 RX11 yX11_reads wsX11_reads) := goodIn_app (goodIn_of _ (by decide +kernel)) ggX11_readText_X11_reads
set_option maxRecDepth 20000 in
theorem ggX11_readText_X11_endsNumber : GoodIn wsX11_readText wsX11_endsNumber := goodIn_r _ [49, 3, 12, 20, 21, 22, 10, 23, 24, 1, 25, 26, 27, 28, 29, 30, 31, 32, 33, 2, 34, 35, 36, 37, 38, 58, 59, 60, 61, 62, 63, 64, 65, 66, 67, 68, 69, 70, 71, 72, 73, 74, 75, 76, 77, 78, 79, 80, 81, 82, 83] rfl (by decide +kernel)
set_option maxRecDepth 20000 in
theorem gX11_readText_X11_endsNumber : GoodIn wsX11_readText (wsV RX11 131 RX11 yX11_endsNumber wsX11_endsNumber) := goodIn_app (goodIn_of _ (by decide +kernel)) ggX11_readText_X11_endsNumber
set_option maxRecDepth 20000 in
theorem ggX11_readText_X11_binds : GoodIn wsX11_readText wsX11_binds := goodIn_r _ [57, 30, 31, 32, 10, 33, 2, 34, 35, 36, 37, 38, 20, 21, 22, 23, 24, 1, 25, 58, 59, 60, 61, 62, 63, 64, 65, 66, 67, 68, 69, 70, 71, 72, 73, 74, 75, 76, 77, 78, 79, 80, 81, 82, 83] rfl (by decide +kernel)
set_option maxRecDepth 20000 in
theorem gX11_readText_X11_binds : GoodIn wsX11_readText (wsV RX11 123 RX11 yX11_binds wsX11_binds) := goodIn_app (goodIn_of _ (by decide +kernel)) ggX11_readText_X11_binds
set_option maxRecDepth 20000 in
theorem ggX11_textError_X11_readText : GoodIn wsX11_textError wsX11_readText := goodIn_r _ [5, 6, 7, 8, 9, 10, 11, 12, 13, 14, 4, 15, 16, 17, 18, 19, 20, 21, 22, 23, 24, 25, 26, 27, 28, 29, 30, 31, 32, 33, 34, 35, 36, 37, 38, 39, 40, 41, 42, 43, 44, 45, 46, 47, 48, 49, 50, 51, 52, 53, 54, 55, 56, 57, 58, 59, 60, 61, 67, 68, 69, 70, 71, 72, 73, 74, 75, 76, 77, 78, 79, 80, 81, 82, 83, 84, 85, 86, 87, 88, 89, 90, 91, 92] rfl (by decide +kernel)
set_option maxRecDepth 20000 in
theorem gX11_textError_X11_readText : GoodIn wsX11_textError (wsV RX11 140 RX11 yX11_readText wsX11_readText) := goodIn_app (goodIn_of _ (by decide +kernel)) ggX11_textError_X11_readText
set_option maxRecDepth 20000 in
theorem ggX11_textError_X11_says : GoodIn wsX11_textError wsX11_says := goodIn_r _ [65, 66, 67, 68, 69, 70, 71, 72, 73, 74, 75, 76, 77, 78, 79, 80, 81, 82, 83, 84, 85, 86, 87, 88, 89, 90, 91, 92] rfl (by decide +kernel)
set_option maxRecDepth 20000 in
theorem gX11_textError_X11_says : GoodIn wsX11_textError (wsV RX11 74 RX11 yX11_says wsX11_says) := goodIn_app (goodIn_of _ (by decide +kernel)) ggX11_textError_X11_says
set_option maxRecDepth 20000 in
theorem ggX11_leastToDefine_X11_readText : GoodIn wsX11_leastToDefine wsX11_readText := goodIn_r _ [5, 6, 7, 8, 9, 10, 11, 12, 13, 14, 4, 15, 16, 17, 18, 19, 20, 21, 22, 23, 24, 25, 26, 27, 28, 29, 30, 31, 32, 33, 34, 35, 36, 37, 38, 39, 40, 41, 42, 43, 44, 45, 46, 47, 48, 49, 50, 51, 52, 53, 54, 55, 56, 57, 58, 59, 60, 61, 71, 72, 73, 74, 75, 76, 77, 78, 79, 80, 81, 82, 83, 84, 85, 86, 87, 88, 89, 90, 91, 92, 93, 94, 95, 96] rfl (by decide +kernel)
set_option maxRecDepth 20000 in
theorem gX11_leastToDefine_X11_readText : GoodIn wsX11_leastToDefine (wsV RX11 140 RX11 yX11_readText wsX11_readText) := goodIn_app (goodIn_of _ (by decide +kernel)) ggX11_leastToDefine_X11_readText
set_option maxRecDepth 20000 in
theorem ggX11_leastToDefine_X11_asks : GoodIn wsX11_leastToDefine wsX11_asks := goodIn_r _ [65, 66, 71, 72, 73, 74, 75, 76, 77, 78, 79, 80, 81, 82, 83, 84, 85, 86, 87, 88, 89, 90, 91, 92, 93, 94, 95, 96] rfl (by decide +kernel)
set_option maxRecDepth 20000 in
theorem gX11_leastToDefine_X11_asks : GoodIn wsX11_leastToDefine (wsV RX11 66 RX11 yX11_asks wsX11_asks) := goodIn_app (goodIn_of _ (by decide +kernel)) ggX11_leastToDefine_X11_asks
set_option maxRecDepth 20000 in
theorem ggX11_leastToDefine_X11_least : GoodIn wsX11_leastToDefine wsX11_least := goodIn_r _ [70, 6, 28, 29, 71, 72, 73, 74, 75, 76, 77, 78, 79, 80, 81, 82, 83, 84, 85, 86, 87, 88, 89, 90, 91, 92, 93, 94, 95, 96] rfl (by decide +kernel)
set_option maxRecDepth 20000 in
theorem gX11_leastToDefine_X11_least : GoodIn wsX11_leastToDefine (wsV RX11 143 RX11 yX11_least wsX11_least) := goodIn_app (goodIn_of _ (by decide +kernel)) ggX11_leastToDefine_X11_least
set_option maxRecDepth 20000 in
theorem ggX11_isFunction_X11_in : GoodIn wsX11_isFunction wsX11_in := goodIn_r _ [4] rfl (by decide +kernel)
set_option maxRecDepth 20000 in
theorem gX11_isFunction_X11_in : GoodIn wsX11_isFunction (va_wsS RX11 101 yX11_in wsX11_in) := goodIn_app (goodIn_of _ (by decide +kernel)) ggX11_isFunction_X11_in
set_option maxRecDepth 20000 in
theorem ggX11_define_X11_isFunction : GoodIn wsX11_define wsX11_isFunction := goodIn_r _ [5, 6, 7, 4, 8] rfl (by decide +kernel)
set_option maxRecDepth 20000 in
theorem gX11_define_X11_isFunction : GoodIn wsX11_define (va_wsS RX11 146 yX11_isFunction wsX11_isFunction) := goodIn_app (goodIn_of _ (by decide +kernel)) ggX11_define_X11_isFunction
set_option maxRecDepth 20000 in
theorem ggX11_define_X11_asks : GoodIn wsX11_define wsX11_asks := goodIn_r _ [12, 1, 89, 90, 91, 92, 93, 94, 95, 96, 97, 98, 99, 100, 101, 102, 103, 104, 105, 106, 107, 108, 109, 110, 111, 112, 113, 114] rfl (by decide +kernel)
set_option maxRecDepth 20000 in
theorem gX11_define_X11_asks : GoodIn wsX11_define (wsV RX11 66 RX11 yX11_asks wsX11_asks) := goodIn_app (goodIn_of _ (by decide +kernel)) ggX11_define_X11_asks
set_option maxRecDepth 20000 in
theorem ggX11_define_X11_readText : GoodIn wsX11_define wsX11_readText := goodIn_r _ [16, 17, 18, 19, 20, 21, 22, 23, 24, 25, 4, 26, 27, 28, 29, 30, 31, 6, 7, 8, 32, 33, 34, 35, 36, 37, 38, 39, 40, 41, 42, 43, 44, 45, 46, 47, 48, 49, 50, 51, 52, 53, 54, 55, 56, 57, 58, 59, 60, 61, 62, 63, 64, 65, 66, 67, 68, 69, 89, 90, 91, 92, 93, 94, 95, 96, 97, 98, 99, 100, 101, 102, 103, 104, 105, 106, 107, 108, 109, 110, 111, 112, 113, 114] rfl (by decide +kernel)
set_option maxRecDepth 20000 in
theorem gX11_define_X11_readText : GoodIn wsX11_define (wsV RX11 140 RX11 yX11_readText wsX11_readText) := goodIn_app (goodIn_of _ (by decide +kernel)) ggX11_define_X11_readText
set_option maxRecDepth 20000 in
theorem ggX11_define_X11_least : GoodIn wsX11_define wsX11_least := goodIn_r _ [73, 17, 36, 37, 89, 90, 91, 92, 93, 94, 95, 96, 97, 98, 99, 100, 101, 102, 103, 104, 105, 106, 107, 108, 109, 110, 111, 112, 113, 114] rfl (by decide +kernel)
set_option maxRecDepth 20000 in
theorem gX11_define_X11_least : GoodIn wsX11_define (wsV RX11 143 RX11 yX11_least wsX11_least) := goodIn_app (goodIn_of _ (by decide +kernel)) ggX11_define_X11_least
set_option maxRecDepth 20000 in
theorem ggX11_define_X11_asksThen : GoodIn wsX11_define wsX11_asksThen := goodIn_r _ [77, 1, 89, 90, 91, 92, 93, 94, 95, 96, 97, 98, 99, 100, 101, 102, 103, 104, 105, 106, 107, 108, 109, 110, 111, 112, 113, 114] rfl (by decide +kernel)
set_option maxRecDepth 20000 in
theorem gX11_define_X11_asksThen : GoodIn wsX11_define (wsV RX11 149 RX11 yX11_asksThen wsX11_asksThen) := goodIn_app (goodIn_of _ (by decide +kernel)) ggX11_define_X11_asksThen
set_option maxRecDepth 20000 in
theorem ggX11_define_X11_record : GoodIn wsX11_define wsX11_record := goodIn_r _ [81, 82, 83, 84, 89, 90, 91, 92, 93, 94, 95, 96, 97, 98, 99, 100, 101, 102, 103, 104, 105, 106, 107, 108, 109, 110, 111, 112, 113, 114] rfl (by decide +kernel)
set_option maxRecDepth 20000 in
theorem gX11_define_X11_record : GoodIn wsX11_define (wsV RX11 78 RX11 yX11_record wsX11_record) := goodIn_app (goodIn_of _ (by decide +kernel)) ggX11_define_X11_record
set_option maxRecDepth 20000 in
theorem ggX11_define_X11_gets : GoodIn wsX11_define wsX11_gets := goodIn_r _ [88, 84, 17, 36, 37, 89, 90, 91, 92, 93, 94, 95, 96, 97, 98, 99, 100, 101, 102, 103, 104, 105, 106, 107, 108, 109, 110, 111, 112, 113, 114] rfl (by decide +kernel)
set_option maxRecDepth 20000 in
theorem gX11_define_X11_gets : GoodIn wsX11_define (wsV RX11 153 RX11 yX11_gets wsX11_gets) := goodIn_app (goodIn_of _ (by decide +kernel)) ggX11_define_X11_gets
set_option maxRecDepth 20000 in
theorem ggX11_takes_X11_size : GoodIn wsX11_takes wsX11_size := goodIn_r _ [8, 9, 18, 19, 20, 21, 22, 23, 24, 25, 26, 27, 28, 29, 30, 31, 32, 33, 34, 35, 36, 37, 38, 39, 40, 41, 42, 43] rfl (by decide +kernel)
set_option maxRecDepth 20000 in
theorem gX11_takes_X11_size : GoodIn wsX11_takes (wsV RX11 156 RX11 yX11_size wsX11_size) := goodIn_app (goodIn_of _ (by decide +kernel)) ggX11_takes_X11_size
set_option maxRecDepth 20000 in
theorem ggX11_takes_X11_kind : GoodIn wsX11_takes wsX11_kind := goodIn_r _ [13, 9, 18, 19, 20, 21, 22, 23, 24, 25, 26, 27, 28, 29, 30, 31, 32, 33, 34, 35, 36, 37, 38, 39, 40, 41, 42, 43] rfl (by decide +kernel)
set_option maxRecDepth 20000 in
theorem gX11_takes_X11_kind : GoodIn wsX11_takes (wsV RX11 159 RX11 yX11_kind wsX11_kind) := goodIn_app (goodIn_of _ (by decide +kernel)) ggX11_takes_X11_kind
set_option maxRecDepth 20000 in
theorem ggX11_takes_X11_number : GoodIn wsX11_takes wsX11_number := goodIn_r _ [17, 9, 18, 19, 20, 21, 22, 23, 24, 25, 26, 27, 28, 29, 30, 31, 32, 33, 34, 35, 36, 37, 38, 39, 40, 41, 42, 43] rfl (by decide +kernel)
set_option maxRecDepth 20000 in
theorem gX11_takes_X11_number : GoodIn wsX11_takes (wsV RX11 163 RX11 yX11_number wsX11_number) := goodIn_app (goodIn_of _ (by decide +kernel)) ggX11_takes_X11_number
set_option maxRecDepth 20000 in
theorem ggX11_copy_X11_isFunction : GoodIn wsX11_copy wsX11_isFunction := goodIn_r _ [4, 5, 6, 3, 7] rfl (by decide +kernel)
set_option maxRecDepth 20000 in
theorem gX11_copy_X11_isFunction : GoodIn wsX11_copy (va_wsS RX11 146 yX11_isFunction wsX11_isFunction) := goodIn_app (goodIn_of _ (by decide +kernel)) ggX11_copy_X11_isFunction
set_option maxRecDepth 20000 in
theorem ggX11_copy_X11_asks : GoodIn wsX11_copy wsX11_asks := goodIn_r _ [11, 12, 51, 52, 53, 54, 55, 56, 57, 58, 59, 60, 61, 62, 63, 64, 65, 66, 67, 68, 69, 70, 71, 72, 73, 74, 75, 76] rfl (by decide +kernel)
set_option maxRecDepth 20000 in
theorem gX11_copy_X11_asks : GoodIn wsX11_copy (wsV RX11 66 RX11 yX11_asks wsX11_asks) := goodIn_app (goodIn_of _ (by decide +kernel)) ggX11_copy_X11_asks
set_option maxRecDepth 20000 in
theorem ggX11_copy_X11_takes : GoodIn wsX11_copy wsX11_takes := goodIn_r _ [16, 17, 18, 19, 20, 21, 22, 3, 23, 24, 25, 26, 27, 28, 29, 30, 31, 32, 51, 52, 53, 54, 55, 56, 57, 58, 59, 60, 61, 62, 63, 64, 65, 66, 67, 68, 69, 70, 71, 72, 73, 74, 75, 76] rfl (by decide +kernel)
set_option maxRecDepth 20000 in
theorem gX11_copy_X11_takes : GoodIn wsX11_copy (wsV RX11 166 RX11 yX11_takes wsX11_takes) := goodIn_app (goodIn_of _ (by decide +kernel)) ggX11_copy_X11_takes
set_option maxRecDepth 20000 in
theorem ggX11_copy_X11_least : GoodIn wsX11_copy wsX11_least := goodIn_r _ [36, 17, 18, 19, 51, 52, 53, 54, 55, 56, 57, 58, 59, 60, 61, 62, 63, 64, 65, 66, 67, 68, 69, 70, 71, 72, 73, 74, 75, 76] rfl (by decide +kernel)
set_option maxRecDepth 20000 in
theorem gX11_copy_X11_least : GoodIn wsX11_copy (wsV RX11 143 RX11 yX11_least wsX11_least) := goodIn_app (goodIn_of _ (by decide +kernel)) ggX11_copy_X11_least
set_option maxRecDepth 20000 in
theorem ggX11_copy_X11_asksThen : GoodIn wsX11_copy wsX11_asksThen := goodIn_r _ [40, 12, 51, 52, 53, 54, 55, 56, 57, 58, 59, 60, 61, 62, 63, 64, 65, 66, 67, 68, 69, 70, 71, 72, 73, 74, 75, 76] rfl (by decide +kernel)
set_option maxRecDepth 20000 in
theorem gX11_copy_X11_asksThen : GoodIn wsX11_copy (wsV RX11 149 RX11 yX11_asksThen wsX11_asksThen) := goodIn_app (goodIn_of _ (by decide +kernel)) ggX11_copy_X11_asksThen
set_option maxRecDepth 20000 in
theorem ggX11_copy_X11_record : GoodIn wsX11_copy wsX11_record := goodIn_r _ [44, 45, 46, 24, 51, 52, 53, 54, 55, 56, 57, 58, 59, 60, 61, 62, 63, 64, 65, 66, 67, 68, 69, 70, 71, 72, 73, 74, 75, 76] rfl (by decide +kernel)
set_option maxRecDepth 20000 in
theorem gX11_copy_X11_record : GoodIn wsX11_copy (wsV RX11 78 RX11 yX11_record wsX11_record) := goodIn_app (goodIn_of _ (by decide +kernel)) ggX11_copy_X11_record
set_option maxRecDepth 20000 in
theorem ggX11_copy_X11_gets : GoodIn wsX11_copy wsX11_gets := goodIn_r _ [50, 24, 17, 18, 19, 51, 52, 53, 54, 55, 56, 57, 58, 59, 60, 61, 62, 63, 64, 65, 66, 67, 68, 69, 70, 71, 72, 73, 74, 75, 76] rfl (by decide +kernel)
set_option maxRecDepth 20000 in
theorem gX11_copy_X11_gets : GoodIn wsX11_copy (wsV RX11 153 RX11 yX11_gets wsX11_gets) := goodIn_app (goodIn_of _ (by decide +kernel)) ggX11_copy_X11_gets
set_option maxRecDepth 20000 in
theorem ggX11_setModulus_X11_in : GoodIn wsX11_setModulus wsX11_in := goodIn_r _ [5] rfl (by decide +kernel)
set_option maxRecDepth 20000 in
theorem gX11_setModulus_X11_in : GoodIn wsX11_setModulus (va_wsS RX11 101 yX11_in wsX11_in) := goodIn_app (goodIn_of _ (by decide +kernel)) ggX11_setModulus_X11_in
set_option maxRecDepth 20000 in
theorem ggX11_setModulus_X11_isPrime : GoodIn wsX11_setModulus wsX11_isPrime := goodIn_r _ [8] rfl (by decide +kernel)
set_option maxRecDepth 20000 in
theorem gX11_setModulus_X11_isPrime : GoodIn wsX11_setModulus (va_wsS RX11 170 yX11_isPrime wsX11_isPrime) := goodIn_app (goodIn_of _ (by decide +kernel)) ggX11_setModulus_X11_isPrime
set_option maxRecDepth 20000 in
theorem ggX11_setModulus_X11_asks : GoodIn wsX11_setModulus wsX11_asks := goodIn_r _ [12, 13, 20, 21, 22, 23, 24, 25, 26, 27, 28, 29, 30, 31, 32, 33, 34, 35, 36, 37, 38, 39, 40, 41, 42, 43, 44, 45] rfl (by decide +kernel)
set_option maxRecDepth 20000 in
theorem gX11_setModulus_X11_asks : GoodIn wsX11_setModulus (wsV RX11 66 RX11 yX11_asks wsX11_asks) := goodIn_app (goodIn_of _ (by decide +kernel)) ggX11_setModulus_X11_asks
set_option maxRecDepth 20000 in
theorem ggX11_setModulus_X11_record : GoodIn wsX11_setModulus wsX11_record := goodIn_r _ [17, 18, 19, 1, 20, 21, 22, 23, 24, 25, 26, 27, 28, 29, 30, 31, 32, 33, 34, 35, 36, 37, 38, 39, 40, 41, 42, 43, 44, 45] rfl (by decide +kernel)
set_option maxRecDepth 20000 in
theorem gX11_setModulus_X11_record : GoodIn wsX11_setModulus (wsV RX11 78 RX11 yX11_record wsX11_record) := goodIn_app (goodIn_of _ (by decide +kernel)) ggX11_setModulus_X11_record
set_option maxRecDepth 20000 in
theorem ggX11_links_X11_size : GoodIn wsX11_links wsX11_size := goodIn_r _ [8, 9, 14, 15, 16, 17, 18, 19, 20, 21, 22, 23, 24, 25, 26, 27, 28, 29, 30, 31, 32, 33, 34, 35, 36, 37, 38, 39] rfl (by decide +kernel)
set_option maxRecDepth 20000 in
theorem gX11_links_X11_size : GoodIn wsX11_links (wsV RX11 156 RX11 yX11_size wsX11_size) := goodIn_app (goodIn_of _ (by decide +kernel)) ggX11_links_X11_size
set_option maxRecDepth 20000 in
theorem ggX11_links_X11_kind : GoodIn wsX11_links wsX11_kind := goodIn_r _ [13, 9, 14, 15, 16, 17, 18, 19, 20, 21, 22, 23, 24, 25, 26, 27, 28, 29, 30, 31, 32, 33, 34, 35, 36, 37, 38, 39] rfl (by decide +kernel)
set_option maxRecDepth 20000 in
theorem gX11_links_X11_kind : GoodIn wsX11_links (wsV RX11 159 RX11 yX11_kind wsX11_kind) := goodIn_app (goodIn_of _ (by decide +kernel)) ggX11_links_X11_kind
set_option maxRecDepth 20000 in
theorem ggX11_nodesOf_X11_isFunction : GoodIn wsX11_nodesOf wsX11_isFunction := goodIn_r _ [4, 5, 6, 3, 7] rfl (by decide +kernel)
set_option maxRecDepth 20000 in
theorem gX11_nodesOf_X11_isFunction : GoodIn wsX11_nodesOf (va_wsS RX11 146 yX11_isFunction wsX11_isFunction) := goodIn_app (goodIn_of _ (by decide +kernel)) ggX11_nodesOf_X11_isFunction
set_option maxRecDepth 20000 in
theorem ggX11_nodesOf_X11_asks : GoodIn wsX11_nodesOf wsX11_asks := goodIn_r _ [11, 12, 18, 19, 20, 21, 22, 23, 24, 25, 26, 27, 28, 29, 30, 31, 32, 33, 34, 35, 36, 37, 38, 39, 40, 41, 42, 43] rfl (by decide +kernel)
set_option maxRecDepth 20000 in
theorem gX11_nodesOf_X11_asks : GoodIn wsX11_nodesOf (wsV RX11 66 RX11 yX11_asks wsX11_asks) := goodIn_app (goodIn_of _ (by decide +kernel)) ggX11_nodesOf_X11_asks
set_option maxRecDepth 20000 in
theorem ggX11_nodesOf_X11_size : GoodIn wsX11_nodesOf wsX11_size := goodIn_r _ [16, 17, 18, 19, 20, 21, 22, 23, 24, 25, 26, 27, 28, 29, 30, 31, 32, 33, 34, 35, 36, 37, 38, 39, 40, 41, 42, 43] rfl (by decide +kernel)
set_option maxRecDepth 20000 in
theorem gX11_nodesOf_X11_size : GoodIn wsX11_nodesOf (wsV RX11 156 RX11 yX11_size wsX11_size) := goodIn_app (goodIn_of _ (by decide +kernel)) ggX11_nodesOf_X11_size
set_option maxRecDepth 20000 in
theorem ggX11_unlike_X11_links : GoodIn wsX11_unlike wsX11_links := goodIn_r _ [8, 3, 9, 2, 10, 11, 12, 7, 13, 14, 15, 16, 17, 18, 23, 24, 25, 26, 27, 28, 29, 30, 31, 32, 33, 34, 35, 36, 37, 38, 39, 40, 41, 42, 43, 44, 45, 46, 47, 48] rfl (by decide +kernel)
set_option maxRecDepth 20000 in
theorem gX11_unlike_X11_links : GoodIn wsX11_unlike (wsV RX11 173 RX11 yX11_links wsX11_links) := goodIn_app (goodIn_of _ (by decide +kernel)) ggX11_unlike_X11_links
set_option maxRecDepth 20000 in
theorem ggX11_unlike_X11_size : GoodIn wsX11_unlike wsX11_size := goodIn_r _ [13, 14, 23, 24, 25, 26, 27, 28, 29, 30, 31, 32, 33, 34, 35, 36, 37, 38, 39, 40, 41, 42, 43, 44, 45, 46, 47, 48] rfl (by decide +kernel)
set_option maxRecDepth 20000 in
theorem gX11_unlike_X11_size : GoodIn wsX11_unlike (wsV RX11 156 RX11 yX11_size wsX11_size) := goodIn_app (goodIn_of _ (by decide +kernel)) ggX11_unlike_X11_size
set_option maxRecDepth 20000 in
theorem ggX11_unlike_X11_kind : GoodIn wsX11_unlike wsX11_kind := goodIn_r _ [18, 14, 23, 24, 25, 26, 27, 28, 29, 30, 31, 32, 33, 34, 35, 36, 37, 38, 39, 40, 41, 42, 43, 44, 45, 46, 47, 48] rfl (by decide +kernel)
set_option maxRecDepth 20000 in
theorem gX11_unlike_X11_kind : GoodIn wsX11_unlike (wsV RX11 159 RX11 yX11_kind wsX11_kind) := goodIn_app (goodIn_of _ (by decide +kernel)) ggX11_unlike_X11_kind
set_option maxRecDepth 20000 in
theorem ggX11_unlike_X11_number : GoodIn wsX11_unlike wsX11_number := goodIn_r _ [22, 14, 23, 24, 25, 26, 27, 28, 29, 30, 31, 32, 33, 34, 35, 36, 37, 38, 39, 40, 41, 42, 43, 44, 45, 46, 47, 48] rfl (by decide +kernel)
set_option maxRecDepth 20000 in
theorem gX11_unlike_X11_number : GoodIn wsX11_unlike (wsV RX11 163 RX11 yX11_number wsX11_number) := goodIn_app (goodIn_of _ (by decide +kernel)) ggX11_unlike_X11_number
set_option maxRecDepth 20000 in
theorem ggX11_unlikeNodesOf_X11_isFunction : GoodIn wsX11_unlikeNodesOf wsX11_isFunction := goodIn_r _ [4, 5, 6, 3, 7] rfl (by decide +kernel)
