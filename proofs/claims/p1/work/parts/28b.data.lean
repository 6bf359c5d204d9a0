/-! data of methods, 1 -/
def sx_d_X11_alibis : List (List (Nat × sx_I)) := [[(0, (.aload_n 0, 1, [])), (1, (.getfield 52, 3, [11, 6, 0, 675])), (4, (.invokevirtual 124, 3, [2, 146, 1, 0, 895])), (7, (.aload_n 0, 1, [])), (8, (.getfield 20, 3, [11, 2, 0, 671])), (11, (.iload_n 1, 1, [])), (12, (.invokevirtual 160, 3, [2, 12, 2, 0, 933])), (15, (.ifCond .ne 5, 3, [20]))], [(2, (.iconst (-1), 1, [4294967295])), (3, (.ireturn, 1, []))]]
set_option maxRecDepth 100000 in
theorem sx_q_X11_alibis : sx_t_X11_alibis = sx_cT sx_d_X11_alibis := rfl
set_option maxRecDepth 100000 in
theorem sx_y_X11_alibis : sx_yOk 16 sx_t_X11_alibis := sx_yok0 (by decide +kernel) sx_q_X11_alibis (by decide +kernel)
def sx_d_X11_back : List (List (Nat × sx_I)) := [[(0, (.iload_n 1, 1, [])), (1, (.ifCond .lt 23, 3, [24])), (4, (.iload_n 1, 1, [])), (5, (.iconst 3, 1, [3])), (6, (.if_icmp .ge 18, 3, [24])), (9, (.aload_n 0, 1, [])), (10, (.getfield 43, 3, [11, 5, 0, 674])), (13, (.iload_n 1, 1, [])), (14, (.aload_n 0, 1, [])), (15, (.getfield 36, 3, [11, 4, 0, 673]))], [(2, (.invokevirtual 373, 3, [2, 135, 3, 0, 1783])), (5, (.ifCond .ne 5, 3, [26])), (8, (.iconst (-1), 1, [4294967295])), (9, (.ireturn, 1, []))]]
set_option maxRecDepth 100000 in
theorem sx_q_X11_back : sx_t_X11_back = sx_cT sx_d_X11_back := rfl
set_option maxRecDepth 100000 in
theorem sx_y_X11_back : sx_yOk 17 sx_t_X11_back := sx_yok0 (by decide +kernel) sx_q_X11_back (by decide +kernel)
def sx_d_X11_breaks : List (List (Nat × sx_I)) := [[(0, (.aload_n 0, 1, [])), (1, (.getfield 20, 3, [11, 2, 0, 671])), (4, (.iload_n 1, 1, [])), (5, (.invokevirtual 160, 3, [2, 12, 2, 0, 933])), (8, (.ifCond .eq 23, 3, [31]))], [(15, (.bipush (-2), 2, [4294967294]))], [(1, (.ireturn, 1, []))]]
set_option maxRecDepth 100000 in
theorem sx_q_X11_breaks : sx_t_X11_breaks = sx_cT sx_d_X11_breaks := rfl
set_option maxRecDepth 100000 in
theorem sx_y_X11_breaks : sx_yOk 18 sx_t_X11_breaks := sx_yok0 (by decide +kernel) sx_q_X11_breaks (by decide +kernel)
def sx_d_X11_canDo : List (List (Nat × sx_I)) := [[(0, (.aload_n 0, 1, [])), (1, (.getfield 20, 3, [11, 2, 0, 671])), (4, (.iload_n 1, 1, [])), (5, (.invokevirtual 160, 3, [2, 12, 2, 0, 933])), (8, (.ifCond .eq 37, 3, [45]))], [], [(13, (.iconst 0, 1, [0])), (14, (.ireturn, 1, [1]))]]
set_option maxRecDepth 100000 in
theorem sx_q_X11_canDo : sx_t_X11_canDo = sx_cT sx_d_X11_canDo := rfl
set_option maxRecDepth 100000 in
theorem sx_y_X11_canDo : sx_yOk 19 sx_t_X11_canDo := sx_yok0 (by decide +kernel) sx_q_X11_canDo (by decide +kernel)
def sx_d_X11_cares : List (List (Nat × sx_I)) := [[(0, (.aload_n 0, 1, [])), (1, (.getfield 20, 3, [11, 2, 0, 671])), (4, (.iload_n 1, 1, [])), (5, (.invokevirtual 160, 3, [2, 12, 2, 0, 933])), (8, (.ifCond .eq 23, 3, [31]))], [(15, (.bipush (-2), 2, [4294967294]))], [(1, (.ireturn, 1, []))]]
set_option maxRecDepth 100000 in
theorem sx_q_X11_cares : sx_t_X11_cares = sx_cT sx_d_X11_cares := rfl
set_option maxRecDepth 100000 in
theorem sx_y_X11_cares : sx_yOk 20 sx_t_X11_cares := sx_yok0 (by decide +kernel) sx_q_X11_cares (by decide +kernel)
def sx_d_X11_chooses : List (List (Nat × sx_I)) := [[(0, (.aload_n 0, 1, [])), (1, (.getfield 20, 3, [11, 2, 0, 671])), (4, (.iload_n 1, 1, [])), (5, (.invokevirtual 160, 3, [2, 12, 2, 0, 933])), (8, (.ifCond .eq 14, 3, [22]))], [(6, (.bipush (-2), 2, [4294967294])), (8, (.ireturn, 1, []))]]
set_option maxRecDepth 100000 in
theorem sx_q_X11_chooses : sx_t_X11_chooses = sx_cT sx_d_X11_chooses := rfl
set_option maxRecDepth 100000 in
theorem sx_y_X11_chooses : sx_yOk 21 sx_t_X11_chooses := sx_yok0 (by decide +kernel) sx_q_X11_chooses (by decide +kernel)
def sx_d_X11_days : List (List (Nat × sx_I)) := [[(0, (.iload_n 1, 1, [])), (1, (.ifCond .lt 24, 3, [25])), (4, (.iload_n 1, 1, [])), (5, (.bipush 60, 2, [60])), (7, (.if_icmp .gt 18, 3, [25])), (10, (.aload_n 0, 1, [])), (11, (.getfield 36, 3, [11, 4, 0, 673])), (14, (.getfield 175, 3, [8, 0, 1, 389]))], [(1, (.iload_n 1, 1, [])), (2, (.iadd, 1, [])), (3, (.sipush 900, 3, [900])), (6, (.if_icmp .le 5, 3, [27])), (9, (.iconst (-1), 1, [4294967295])), (10, (.ireturn, 1, [])), (11, (.iconst 0, 1, [0])), (12, (.istore_n 2, 1, [])), (13, (.iload_n 2, 1, [])), (14, (.iload_n 1, 1, [])), (15, (.if_icmp .ge 18, 3, [49]))], [(2, (.aload_n 0, 1, [])), (3, (.getfield 61, 3, [11, 7, 0, 676])), (6, (.iconst (-1), 1, [4294967295])), (7, (.iconst (-1), 1, [4294967295])), (8, (.invokevirtual 205, 3, [2, 5, 3, 0, 1027])), (11, (.iinc 2 1, 3, [1])), (14, (.goto (-17), 3, [29]))], [(1, (.aload_n 0, 1, [])), (2, (.getfield 43, 3, [11, 5, 0, 674])), (5, (.aload_n 0, 1, [])), (6, (.getfield 36, 3, [11, 4, 0, 673])), (9, (.invokevirtual 209, 3, [2, 130, 2, 0, 1036])), (12, (.aload_n 0, 1, [])), (13, (.getfield 36, 3, [11, 4, 0, 673]))], [(0, (.getfield 175, 3, [8, 0, 1, 389])), (3, (.ireturn, 1, []))]]
set_option maxRecDepth 100000 in
theorem sx_q_X11_days : sx_t_X11_days = sx_cT sx_d_X11_days := rfl
set_option maxRecDepth 100000 in
theorem sx_y_X11_days : sx_yOk 22 sx_t_X11_days := sx_yok0 (by decide +kernel) sx_q_X11_days (by decide +kernel)
def sx_d_X11_decree : List (List (Nat × sx_I)) := [[(0, (.aload_n 0, 1, [])), (1, (.iload_n 1, 1, [])), (2, (.iload_n 2, 1, [])), (3, (.invokevirtual 182, 3, [2, 19, 3, 0, 1000])), (6, (.ifCond .eq 16, 3, [22]))], [(6, (.ldc 186, 2, [3294967296, 1005])), (8, (.ireturn, 1, []))]]
set_option maxRecDepth 100000 in
theorem sx_q_X11_decree : sx_t_X11_decree = sx_cT sx_d_X11_decree := rfl
set_option maxRecDepth 100000 in
theorem sx_y_X11_decree : sx_yOk 23 sx_t_X11_decree := sx_yok0 (by decide +kernel) sx_q_X11_decree (by decide +kernel)
def sx_d_X11_die : List (List (Nat × sx_I)) := [[(0, (.aload_n 0, 1, [])), (1, (.getfield 20, 3, [11, 2, 0, 671])), (4, (.iload_n 1, 1, [])), (5, (.invokevirtual 137, 3, [2, 11, 2, 0, 912])), (8, (.ifCond .ne 5, 3, [13])), (11, (.iconst (-1), 1, [4294967295])), (12, (.ireturn, 1, []))]]
set_option maxRecDepth 100000 in
theorem sx_q_X11_die : sx_t_X11_die = sx_cT sx_d_X11_die := rfl
set_option maxRecDepth 100000 in
theorem sx_y_X11_die : sx_yOk 24 sx_t_X11_die := sx_yok0 (by decide +kernel) sx_q_X11_die (by decide +kernel)
def sx_d_X11_elected : List (List (Nat × sx_I)) := [[(0, (.iload_n 1, 1, [])), (1, (.ifCond .lt 10, 3, [11])), (4, (.iload_n 1, 1, [])), (5, (.sipush 999, 3, [999])), (8, (.if_icmp .le 5, 3, [13])), (11, (.iconst (-1), 1, [4294967295])), (12, (.ireturn, 1, [])), (13, (.aload_n 0, 1, [])), (14, (.getfield 61, 3, [11, 7, 0, 676]))], [(1, (.iload_n 1, 1, [])), (2, (.invokevirtual 321, 3, [2, 7, 2, 0, 1650])), (5, (.ireturn, 1, []))]]
set_option maxRecDepth 100000 in
theorem sx_q_X11_elected : sx_t_X11_elected = sx_cT sx_d_X11_elected := rfl
set_option maxRecDepth 100000 in
theorem sx_y_X11_elected : sx_yOk 25 sx_t_X11_elected := sx_yok0 (by decide +kernel) sx_q_X11_elected (by decide +kernel)
def sx_d_X11_end : List (List (Nat × sx_I)) := [[(0, (.iload_n 1, 1, [])), (1, (.ifCond .lt 11, 3, [12])), (4, (.iload_n 1, 1, [])), (5, (.aload_n 0, 1, [])), (6, (.getfield 13, 3, [11, 1, 0, 670])), (9, (.if_icmp .le 5, 3, [14])), (12, (.iconst (-1), 1, [4294967295])), (13, (.ireturn, 1, [])), (14, (.aload_n 0, 1, [])), (15, (.iload_n 1, 1, []))], [(0, (.putfield 13, 3, [11, 1, 0, 0, 0, 670])), (3, (.iload_n 1, 1, [])), (4, (.ireturn, 1, []))]]
set_option maxRecDepth 100000 in
theorem sx_q_X11_end : sx_t_X11_end = sx_cT sx_d_X11_end := rfl
set_option maxRecDepth 100000 in
theorem sx_y_X11_end : sx_yOk 26 sx_t_X11_end := sx_yok0 (by decide +kernel) sx_q_X11_end (by decide +kernel)
def sx_d_X11_exchange : List (List (Nat × sx_I)) := [[(0, (.aload_n 0, 1, [])), (1, (.getfield 20, 3, [11, 2, 0, 671])), (4, (.iload_n 1, 1, [])), (5, (.invokevirtual 160, 3, [2, 12, 2, 0, 933])), (8, (.ifCond .eq 32, 3, [40]))], [], [(8, (.iconst 0, 1, [0])), (9, (.ireturn, 1, [1]))]]
set_option maxRecDepth 100000 in
theorem sx_q_X11_exchange : sx_t_X11_exchange = sx_cT sx_d_X11_exchange := rfl
set_option maxRecDepth 100000 in
theorem sx_y_X11_exchange : sx_yOk 27 sx_t_X11_exchange := sx_yok0 (by decide +kernel) sx_q_X11_exchange (by decide +kernel)
def sx_d_X11_fast : List (List (Nat × sx_I)) := [[(0, (.aload_n 0, 1, [])), (1, (.getfield 85, 3, [11, 11, 0, 680])), (4, (.invokevirtual 300, 3, [2, 140, 1, 0, 1609])), (7, (.aload_n 0, 1, [])), (8, (.getfield 85, 3, [11, 11, 0, 680])), (11, (.getfield 302, 3, [3, 8, 1, 568])), (14, (.ireturn, 1, []))]]
set_option maxRecDepth 100000 in
theorem sx_q_X11_fast : sx_t_X11_fast = sx_cT sx_d_X11_fast := rfl
set_option maxRecDepth 100000 in
theorem sx_y_X11_fast : sx_yOk 28 sx_t_X11_fast := sx_yok0 (by decide +kernel) sx_q_X11_fast (by decide +kernel)
def sx_d_X11_fault : List (List (Nat × sx_I)) := [[(0, (.iload_n 1, 1, [])), (1, (.lookupswitch 43 #[(0, 27), (1, 35)], 27, [44, 2147483648, 28, 2147483649, 36]))], [(12, (.aload_n 0, 1, [])), (13, (.getfield 29, 3, [11, 3, 0, 672]))], [(0, (.getfield 131, 3, [4, 7, 1, 333])), (3, (.ireturn, 1, [])), (4, (.aload_n 0, 1, [])), (5, (.getfield 29, 3, [11, 3, 0, 672])), (8, (.getfield 134, 3, [4, 8, 1, 335])), (11, (.ireturn, 1, [])), (12, (.iconst (-1), 1, [4294967295])), (13, (.ireturn, 1, []))]]
set_option maxRecDepth 100000 in
theorem sx_q_X11_fault : sx_t_X11_fault = sx_cT sx_d_X11_fault := rfl
set_option maxRecDepth 100000 in
theorem sx_y_X11_fault : sx_yOk 29 sx_t_X11_fault := sx_yok0 (by decide +kernel) sx_q_X11_fault (by decide +kernel)
def sx_d_X11_feed : List (List (Nat × sx_I)) := [[(0, (.aload_n 0, 1, [])), (1, (.getfield 13, 3, [11, 1, 0, 670])), (4, (.bipush 20, 2, [20])), (6, (.iadd, 1, [])), (7, (.sipush 1600, 3, [1600])), (10, (.if_icmp .le 5, 3, [15])), (15, (.aload_n 0, 1, []))], [(0, (.iload_n 1, 1, [])), (1, (.invokevirtual 105, 3, [2, 48, 2, 0, 713])), (4, (.aload_n 0, 1, [])), (5, (.iload_n 2, 1, [])), (6, (.invokevirtual 105, 3, [2, 48, 2, 0, 713])), (9, (.aload_n 0, 1, [])), (10, (.iload_n 3, 1, [])), (11, (.invokevirtual 105, 3, [2, 48, 2, 0, 713])), (14, (.aload_n 0, 1, [])), (15, (.iload 4, 2, []))], [(1, (.invokevirtual 105, 3, [2, 48, 2, 0, 713])), (4, (.aload_n 0, 1, [])), (5, (.iload 5, 2, [])), (7, (.invokevirtual 105, 3, [2, 48, 2, 0, 713])), (10, (.aload_n 0, 1, [])), (11, (.getfield 13, 3, [11, 1, 0, 670])), (14, (.ireturn, 1, []))]]
set_option maxRecDepth 100000 in
theorem sx_q_X11_feed : sx_t_X11_feed = sx_cT sx_d_X11_feed := rfl
set_option maxRecDepth 100000 in
theorem sx_y_X11_feed : sx_yOk 30 sx_t_X11_feed := sx_yok0 (by decide +kernel) sx_q_X11_feed (by decide +kernel)
def sx_d_X11_guilt : List (List (Nat × sx_I)) := [[(0, (.aload_n 0, 1, [])), (1, (.getfield 20, 3, [11, 2, 0, 671])), (4, (.iload_n 1, 1, [])), (5, (.invokevirtual 193, 3, [2, 10, 2, 0, 1004])), (8, (.ifCond .eq 23, 3, [31]))], [(15, (.iconst (-1), 1, [4294967295]))], [(0, (.ireturn, 1, []))]]
set_option maxRecDepth 100000 in
theorem sx_q_X11_guilt : sx_t_X11_guilt = sx_cT sx_d_X11_guilt := rfl
set_option maxRecDepth 100000 in
theorem sx_y_X11_guilt : sx_yOk 31 sx_t_X11_guilt := sx_yok0 (by decide +kernel) sx_q_X11_guilt (by decide +kernel)
def sx_d_X11_half : List (List (Nat × sx_I)) := [[(0, (.aload_n 0, 1, [])), (1, (.getfield 20, 3, [11, 2, 0, 671])), (4, (.iload_n 1, 1, [])), (5, (.invokevirtual 137, 3, [2, 11, 2, 0, 912])), (8, (.ifCond .ne 5, 3, [13])), (11, (.iconst (-1), 1, [4294967295])), (12, (.ireturn, 1, []))]]
set_option maxRecDepth 100000 in
theorem sx_q_X11_half : sx_t_X11_half = sx_cT sx_d_X11_half := rfl
set_option maxRecDepth 100000 in
theorem sx_y_X11_half : sx_yOk 32 sx_t_X11_half := sx_yok0 (by decide +kernel) sx_q_X11_half (by decide +kernel)
def sx_d_X11_hush : List (List (Nat × sx_I)) := [[(0, (.aload_n 0, 1, [])), (1, (.getfield 70, 3, [11, 8, 0, 677])), (4, (.getfield 121, 3, [1, 7, 1, 522])), (7, (.getfield 284, 3, [5, 1, 1, 465])), (10, (.istore_n 1, 1, [])), (11, (.aload_n 0, 1, [])), (12, (.getfield 70, 3, [11, 8, 0, 677])), (15, (.getfield 121, 3, [1, 7, 1, 522]))], [(2, (.invokevirtual 124, 3, [2, 146, 1, 0, 895])), (5, (.iload_n 1, 1, [])), (6, (.ireturn, 1, []))]]
set_option maxRecDepth 100000 in
theorem sx_q_X11_hush : sx_t_X11_hush = sx_cT sx_d_X11_hush := rfl
set_option maxRecDepth 100000 in
theorem sx_y_X11_hush : sx_yOk 33 sx_t_X11_hush := sx_yok0 (by decide +kernel) sx_q_X11_hush (by decide +kernel)
def sx_d_X11_image : List (List (Nat × sx_I)) := [[(0, (.iload_n 1, 1, [])), (1, (.ifCond .lt 8, 3, [9])), (4, (.iload_n 1, 1, [])), (5, (.iconst 3, 1, [3])), (6, (.if_icmp .lt 5, 3, [11])), (9, (.iconst (-1), 1, [4294967295])), (10, (.ireturn, 1, [])), (11, (.aload_n 0, 1, [])), (12, (.getfield 43, 3, [11, 5, 0, 674])), (15, (.iload_n 1, 1, []))], [(0, (.aload_n 0, 1, [])), (1, (.getfield 36, 3, [11, 4, 0, 673])), (4, (.invokevirtual 369, 3, [2, 128, 3, 0, 1775])), (7, (.aload_n 0, 1, [])), (8, (.getfield 36, 3, [11, 4, 0, 673])), (11, (.getfield 175, 3, [8, 0, 1, 389])), (14, (.ireturn, 1, []))]]
set_option maxRecDepth 100000 in
theorem sx_q_X11_image : sx_t_X11_image = sx_cT sx_d_X11_image := rfl
set_option maxRecDepth 100000 in
theorem sx_y_X11_image : sx_yOk 34 sx_t_X11_image := sx_yok0 (by decide +kernel) sx_q_X11_image (by decide +kernel)
def sx_d_X11_in : List (List (Nat × sx_I)) := [[(0, (.aload_n 0, 1, [])), (1, (.getfield 20, 3, [11, 2, 0, 671])), (4, (.iload_n 1, 1, [])), (5, (.invokevirtual 160, 3, [2, 12, 2, 0, 933])), (8, (.ifCond .eq 14, 3, [22]))], [(6, (.bipush (-2), 2, [4294967294])), (8, (.ireturn, 1, []))]]
set_option maxRecDepth 100000 in
theorem sx_q_X11_in : sx_t_X11_in = sx_cT sx_d_X11_in := rfl
set_option maxRecDepth 100000 in
theorem sx_y_X11_in : sx_yOk 35 sx_t_X11_in := sx_yok0 (by decide +kernel) sx_q_X11_in (by decide +kernel)
def sx_d_X11_init : List (List (Nat × sx_I)) := [[(0, (.aload_n 0, 1, [])), (1, (.invokespecial 3, 3, [0, 193])), (4, (.aload_n 0, 1, [])), (5, (.sipush 1600, 3, [1600])), (8, (.newarray .int, 2, [0])), (10, (.putfield 9, 3, [11, 0, 1, 0, 1, 669])), (13, (.aload_n 0, 1, [])), (14, (.iconst 0, 1, [0])), (15, (.putfield 13, 3, [11, 1, 0, 0, 0, 670]))], [(2, (.aload_n 0, 1, [])), (3, (.new 17, 3, [10, 196])), (6, (.dup, 1, [])), (7, (.invokespecial 19, 3, [2, 13, 1, 0, 198])), (10, (.putfield 20, 3, [11, 2, 1, 0, 1, 671])), (13, (.aload_n 0, 1, [])), (14, (.new 24, 3, [4, 316]))], [(1, (.dup, 1, [])), (2, (.aload_n 0, 1, [])), (3, (.getfield 9, 3, [11, 0, 0, 669])), (6, (.invokespecial 26, 3, [2, 143, 2, 0, 318])), (9, (.putfield 29, 3, [11, 3, 1, 0, 1, 672])), (12, (.aload_n 0, 1, [])), (13, (.new 33, 3, [8, 380]))], [(0, (.dup, 1, [])), (1, (.invokespecial 35, 3, [2, 157, 1, 1, 382])), (4, (.putfield 36, 3, [11, 4, 1, 0, 1, 673])), (7, (.aload_n 0, 1, [])), (8, (.new 40, 3, [2, 423])), (11, (.dup, 1, [])), (12, (.invokespecial 42, 3, [2, 129, 1, 1, 425])), (15, (.putfield 43, 3, [11, 5, 1, 0, 1, 674]))], [(2, (.aload_n 0, 1, [])), (3, (.new 47, 3, [5, 453])), (6, (.dup, 1, [])), (7, (.bipush 20, 2, [20])), (9, (.invokespecial 49, 3, [2, 147, 2, 0, 455])), (12, (.putfield 52, 3, [11, 6, 1, 0, 1, 675])), (15, (.aload_n 0, 1, []))], [(0, (.new 56, 3, [0, 471])), (3, (.dup, 1, [])), (4, (.aload_n 0, 1, [])), (5, (.getfield 20, 3, [11, 2, 0, 671])), (8, (.aload_n 0, 1, [])), (9, (.getfield 36, 3, [11, 4, 0, 673])), (12, (.invokespecial 58, 3, [2, 3, 3, 0, 473])), (15, (.putfield 61, 3, [11, 7, 1, 0, 1, 676]))], [(2, (.aload_n 0, 1, [])), (3, (.new 65, 3, [1, 502])), (6, (.dup, 1, [])), (7, (.aload_n 0, 1, [])), (8, (.getfield 20, 3, [11, 2, 0, 671])), (11, (.aload_n 0, 1, [])), (12, (.getfield 36, 3, [11, 4, 0, 673])), (15, (.aload_n 0, 1, []))], [(0, (.getfield 61, 3, [11, 7, 0, 676])), (3, (.invokespecial 67, 3, [2, 126, 4, 0, 504])), (6, (.putfield 70, 3, [11, 8, 1, 0, 1, 677])), (9, (.aload_n 0, 1, [])), (10, (.aconst_null, 1, [])), (11, (.putfield 74, 3, [11, 9, 1, 0, 0, 678])), (14, (.aload_n 0, 1, [])), (15, (.aconst_null, 1, []))], [(0, (.putfield 78, 3, [11, 10, 1, 0, 0, 679])), (3, (.aload_n 0, 1, [])), (4, (.new 82, 3, [3, 549])), (7, (.dup, 1, [])), (8, (.aload_n 0, 1, [])), (9, (.getfield 20, 3, [11, 2, 0, 671])), (12, (.aload_n 0, 1, [])), (13, (.getfield 36, 3, [11, 4, 0, 673]))], [(0, (.invokespecial 84, 3, [2, 137, 3, 0, 551])), (3, (.putfield 85, 3, [11, 11, 1, 0, 1, 680])), (6, (.aload_n 0, 1, [])), (7, (.new 89, 3, [7, 588])), (10, (.dup, 1, [])), (11, (.aload_n 0, 1, [])), (12, (.getfield 20, 3, [11, 2, 0, 671])), (15, (.invokespecial 91, 3, [2, 150, 2, 0, 590]))], [(2, (.putfield 94, 3, [11, 12, 1, 0, 1, 681])), (5, (.aload_n 0, 1, [])), (6, (.getfield 36, 3, [11, 4, 0, 673])), (9, (.aload_n 0, 1, [])), (10, (.getfield 20, 3, [11, 2, 0, 671])), (13, (.invokevirtual 98, 3, [2, 155, 2, 0, 647]))], [(0, (.aload_n 0, 1, [])), (1, (.getfield 43, 3, [11, 5, 0, 674])), (4, (.aload_n 0, 1, [])), (5, (.getfield 36, 3, [11, 4, 0, 673])), (8, (.invokevirtual 101, 3, [2, 132, 2, 0, 656])), (11, (.return_, 1, []))]]
set_option maxRecDepth 100000 in
theorem sx_q_X11_init : sx_t_X11_init = sx_cT sx_d_X11_init := rfl
set_option maxRecDepth 100000 in
theorem sx_y_X11_init : sx_yOk 36 sx_t_X11_init := sx_yok1 (by decide +kernel) (by decide +kernel) sx_q_X11_init (by decide +kernel)
def sx_d_X11_joy : List (List (Nat × sx_I)) := [[(0, (.aload_n 0, 1, [])), (1, (.iload_n 1, 1, [])), (2, (.iload_n 2, 1, [])), (3, (.invokevirtual 182, 3, [2, 19, 3, 0, 1000])), (6, (.ifCond .ne 6, 3, [12])), (9, (.ldc 186, 2, [3294967296, 1005])), (11, (.ireturn, 1, []))]]
set_option maxRecDepth 100000 in
theorem sx_q_X11_joy : sx_t_X11_joy = sx_cT sx_d_X11_joy := rfl
set_option maxRecDepth 100000 in
theorem sx_y_X11_joy : sx_yOk 37 sx_t_X11_joy := sx_yok0 (by decide +kernel) sx_q_X11_joy (by decide +kernel)
