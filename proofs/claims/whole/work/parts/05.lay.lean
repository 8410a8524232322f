set_option maxRecDepth 100000 in
theorem xlay_0 : u_ws RX0 TX0 19 = [154, 156, 158, 160, 162, 164, 166, 168, 170, 172, 174, 176, 178, 180, 182, 184, 186, 188, 190].filterMap (fun i => lw_tbl[i]?) := by decide +kernel
set_option maxRecDepth 100000 in
theorem xlag_0 : (u_ws RX0 TX0 19).all goodWord = true := by decide +kernel
set_option maxRecDepth 100000 in
theorem xlay_1 : u_ws RX1 TX1 4 = [101, 103, 105, 107].filterMap (fun i => lw_tbl[i]?) := by decide +kernel
set_option maxRecDepth 100000 in
theorem xlag_1 : (u_ws RX1 TX1 4).all goodWord = true := by decide +kernel
set_option maxRecDepth 100000 in
theorem xlay_2 : u_ws RX2 TX2 19 = [212, 214, 216, 218, 220, 222, 224, 226, 228, 230, 232, 234, 236, 238, 240, 242, 244, 246, 248].filterMap (fun i => lw_tbl[i]?) := by decide +kernel
set_option maxRecDepth 100000 in
theorem xlag_2 : (u_ws RX2 TX2 19).all goodWord = true := by decide +kernel
set_option maxRecDepth 100000 in
theorem xlay_3 : u_ws RX3 TX3 41 = [572, 574, 576, 578, 580, 582, 584, 586, 588, 590, 592, 594, 596, 598, 600, 602, 604, 606, 608, 610, 612, 614, 616, 618, 620, 622, 624, 626, 628, 630, 632, 634, 636, 638, 640, 642, 644, 646, 648, 650, 652].filterMap (fun i => lw_tbl[i]?) := by decide +kernel
set_option maxRecDepth 100000 in
theorem xlag_3 : (u_ws RX3 TX3 41).all goodWord = true := by decide +kernel
