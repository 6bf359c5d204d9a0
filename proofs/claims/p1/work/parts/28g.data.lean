/-! data of methods, 6 -/
def sx_d_X12_stranger : List (List (Nat × sx_I)) := [[(0, (.iload_n 1, 1, [])), (1, (.iconst 0, 1, [0])), (2, (.iconst 1, 1, [1])), (3, (.invokestatic 379, 3, [2, 94, 3, 0, 2212])), (6, (.ifCond .ne 5, 3, [11])), (9, (.iconst (-1), 1, [4294967295])), (10, (.ireturn, 1, [])), (11, (.iconst 1, 1, [1])), (12, (.istore_n 3, 1, [])), (13, (.iload_n 3, 1, [])), (14, (.bipush 9, 2, [9]))], [(0, (.if_icmp .gt 32, 3, [48])), (3, (.aload_n 0, 1, [])), (4, (.iload_n 3, 1, [])), (5, (.iload_n 2, 1, [])), (6, (.invokevirtual 589, 3, [2, 96, 3, 0, 2554])), (9, (.ifCond .eq 17, 3, [42])), (12, (.iload_n 1, 1, [])), (13, (.ifCond .ne 11, 3, [40]))], [(0, (.aload_n 0, 1, [])), (1, (.iload_n 2, 1, [])), (2, (.invokevirtual 592, 3, [2, 117, 2, 0, 2558])), (5, (.goto 4, 3, [41])), (8, (.iload_n 3, 1, [])), (9, (.ireturn, 1, []))]]
set_option maxRecDepth 100000 in
theorem sx_q_X12_stranger : sx_t_X12_stranger = sx_cT sx_d_X12_stranger := rfl
set_option maxRecDepth 100000 in
theorem sx_y_X12_stranger : sx_yOk 120 sx_t_X12_stranger := sx_yok0 (by decide +kernel) sx_q_X12_stranger (by decide +kernel)
def sx_d_X12_takes : List (List (Nat × sx_I)) := [[(0, (.aload_n 0, 1, [])), (1, (.invokevirtual 529, 3, [2, 91, 1, 0, 2460])), (4, (.istore_n 3, 1, [])), (5, (.aload_n 0, 1, [])), (6, (.dup, 1, [])), (7, (.getfield 512, 3, [12, 61, 0, 1866])), (10, (.iload_n 3, 1, [])), (11, (.ifCond .eq 7, 3, [18])), (14, (.iconst 1, 1, [1])), (15, (.goto 4, 3, [19]))], [(3, (.iadd, 1, [])), (4, (.putfield 512, 3, [12, 61, 0, 0, 0, 1866])), (7, (.aload_n 0, 1, [])), (8, (.invokevirtual 532, 3, [2, 102, 1, 0, 2468])), (11, (.istore 4, 2, [])), (13, (.iload_n 2, 1, [])), (14, (.ifCond .eq 12, 3, [42]))], [(1, (.iload 4, 2, [])), (3, (.iload_n 1, 1, [])), (4, (.if_icmp .gt 19, 3, [55])), (10, (.iload_n 3, 1, [])), (11, (.ifCond .eq 10, 3, [53])), (14, (.iload_n 1, 1, [])), (15, (.ldc_w 452, 3, [3294967296, 2306]))], [(2, (.if_icmp .le 5, 3, [55])), (7, (.iconst 0, 1, [0])), (8, (.istore 5, 2, [])), (10, (.iload 5, 2, [])), (12, (.bipush 8, 2, [8])), (14, (.if_icmp .ge 23, 3, [85]))], [(1, (.aload_n 0, 1, [])), (2, (.getfield 128, 3, [12, 60, 0, 1865])), (5, (.iload 5, 2, [])), (7, (.aload_n 0, 1, [])), (8, (.getfield 125, 3, [12, 59, 0, 1864])), (11, (.iload 5, 2, [])), (13, (.iaload, 1, [])), (14, (.iastore, 1, [])), (15, (.iinc 5 1, 3, [1]))], [(2, (.goto (-24), 3, [58])), (5, (.iload 4, 2, [])), (7, (.ireturn, 1, []))]]
set_option maxRecDepth 100000 in
theorem sx_q_X12_takes : sx_t_X12_takes = sx_cT sx_d_X12_takes := rfl
set_option maxRecDepth 100000 in
theorem sx_y_X12_takes : sx_yOk 121 sx_t_X12_takes := sx_yok0 (by decide +kernel) sx_q_X12_takes (by decide +kernel)
def sx_d_X12_together : List (List (Nat × sx_I)) := [[(0, (.aload_n 0, 1, [])), (1, (.iconst 0, 1, [0])), (2, (.putfield 398, 3, [12, 56, 0, 0, 0, 1861])), (5, (.aload_n 0, 1, [])), (6, (.iload_n 1, 1, [])), (7, (.invokevirtual 440, 3, [2, 95, 2, 0, 2231])), (10, (.ifCond .eq 10, 3, [20]))], [(4, (.ldc_w 452, 3, [3294967296, 2306])), (7, (.ireturn, 1, []))]]
set_option maxRecDepth 100000 in
theorem sx_q_X12_together : sx_t_X12_together = sx_cT sx_d_X12_together := rfl
set_option maxRecDepth 100000 in
theorem sx_y_X12_together : sx_yOk 122 sx_t_X12_together := sx_yok0 (by decide +kernel) sx_q_X12_together (by decide +kernel)
def sx_d_X12_undo : List (List (Nat × sx_I)) := [[(0, (.aload_n 0, 1, [])), (1, (.getfield 386, 3, [12, 51, 0, 1856])), (4, (.ifCond .ne 5, 3, [9])), (7, (.iconst 0, 1, [0])), (8, (.ireturn, 1, [1]))]]
set_option maxRecDepth 100000 in
theorem sx_q_X12_undo : sx_t_X12_undo = sx_cT sx_d_X12_undo := rfl
set_option maxRecDepth 100000 in
theorem sx_y_X12_undo : sx_yOk 123 sx_t_X12_undo := sx_yok0 (by decide +kernel) sx_q_X12_undo (by decide +kernel)
def sx_d_X12_untell : List (List (Nat × sx_I)) := [[(0, (.iload_n 1, 1, [])), (1, (.iconst 0, 1, [0])), (2, (.aload_n 0, 1, [])), (3, (.getfield 395, 3, [12, 71, 0, 1876])), (6, (.iconst 1, 1, [1])), (7, (.isub, 1, [])), (8, (.invokestatic 379, 3, [2, 94, 3, 0, 2212])), (11, (.ifCond .eq 12, 3, [23]))], [(7, (.iconst 0, 1, [0])), (8, (.ireturn, 1, [1]))]]
set_option maxRecDepth 100000 in
theorem sx_q_X12_untell : sx_t_X12_untell = sx_cT sx_d_X12_untell := rfl
set_option maxRecDepth 100000 in
theorem sx_y_X12_untell : sx_yOk 124 sx_t_X12_untell := sx_yok0 (by decide +kernel) sx_q_X12_untell (by decide +kernel)
def sx_d_X12_who : List (List (Nat × sx_I)) := [[(0, (.aload_n 0, 1, [])), (1, (.iload_n 1, 1, [])), (2, (.invokevirtual 440, 3, [2, 95, 2, 0, 2231])), (5, (.ifCond .eq 13, 3, [18]))], [(2, (.iconst (-1), 1, [4294967295])), (3, (.ireturn, 1, []))]]
set_option maxRecDepth 100000 in
theorem sx_q_X12_who : sx_t_X12_who = sx_cT sx_d_X12_who := rfl
set_option maxRecDepth 100000 in
theorem sx_y_X12_who : sx_yOk 125 sx_t_X12_who := sx_yok0 (by decide +kernel) sx_q_X12_who (by decide +kernel)
def sx_d_X1_init : List (List (Nat × sx_I)) := [[(0, (.aload_n 0, 1, [])), (1, (.invokespecial 5, 3, [0, 507])), (4, (.aload_n 0, 1, [])), (5, (.sipush 2000, 3, [2000])), (8, (.newarray .int, 2, [0])), (10, (.putfield 11, 3, [1, 3, 1, 0, 1, 515])), (13, (.aload_n 0, 1, [])), (14, (.sipush 6000, 3, [6000]))], [(1, (.newarray .int, 2, [0])), (3, (.putfield 15, 3, [1, 4, 1, 0, 1, 518])), (6, (.aload_n 0, 1, [])), (7, (.sipush 2000, 3, [2000])), (10, (.newarray .long, 2, [1])), (12, (.putfield 18, 3, [1, 5, 1, 0, 1, 519])), (15, (.aload_n 0, 1, []))], [(0, (.sipush 2000, 3, [2000])), (3, (.newarray .long, 2, [1])), (5, (.putfield 22, 3, [1, 6, 1, 0, 1, 520])), (8, (.aload_n 0, 1, [])), (9, (.new 25, 3, [5, 508])), (12, (.dup, 1, [])), (13, (.bipush 14, 2, [14])), (15, (.invokespecial 27, 3, [2, 147, 2, 0, 509]))], [(2, (.putfield 30, 3, [1, 7, 1, 0, 1, 521])), (5, (.aload_n 0, 1, [])), (6, (.aload_n 1, 1, [])), (7, (.putfield 34, 3, [1, 0, 1, 0, 1, 510])), (10, (.aload_n 0, 1, [])), (11, (.aload_n 2, 1, [])), (12, (.putfield 38, 3, [1, 1, 1, 0, 1, 511])), (15, (.aload_n 0, 1, []))], [(0, (.aload_n 3, 1, [])), (1, (.putfield 42, 3, [1, 2, 1, 0, 1, 513])), (4, (.return_, 1, []))]]
set_option maxRecDepth 100000 in
theorem sx_q_X1_init : sx_t_X1_init = sx_cT sx_d_X1_init := rfl
set_option maxRecDepth 100000 in
theorem sx_y_X1_init : sx_yOk 126 sx_t_X1_init := sx_yok1 (by decide +kernel) (by decide +kernel) sx_q_X1_init (by decide +kernel)
def sx_d_X2_emptyBoxes : List (List (Nat × sx_I)) := [[(0, (.iconst 0, 1, [0])), (1, (.istore_n 1, 1, [])), (2, (.iload_n 1, 1, [])), (3, (.iconst 3, 1, [3])), (4, (.if_icmp .ge 16, 3, [20])), (7, (.aload_n 0, 1, [])), (8, (.getfield 20, 3, [2, 2, 0, 433])), (11, (.iload_n 1, 1, [])), (12, (.iconst 0, 1, [0])), (13, (.bastore, 1, [2])), (14, (.iinc 1 1, 3, [1]))], [(1, (.goto (-15), 3, [2])), (4, (.return_, 1, []))]]
set_option maxRecDepth 100000 in
theorem sx_q_X2_emptyBoxes : sx_t_X2_emptyBoxes = sx_cT sx_d_X2_emptyBoxes := rfl
set_option maxRecDepth 100000 in
theorem sx_y_X2_emptyBoxes : sx_yOk 127 sx_t_X2_emptyBoxes := sx_yok0 (by decide +kernel) sx_q_X2_emptyBoxes (by decide +kernel)
def sx_d_X2_fillBox : List (List (Nat × sx_I)) := [[(0, (.aload_n 0, 1, [])), (1, (.getfield 17, 3, [2, 1, 0, 432])), (4, (.iload_n 1, 1, [])), (5, (.aaload, 1, [])), (6, (.ifnonnull 16, 3, [22])), (9, (.aload_n 0, 1, [])), (10, (.getfield 17, 3, [2, 1, 0, 432])), (13, (.iload_n 1, 1, [])), (14, (.new 11, 3, [8, 429]))], [(1, (.dup, 1, [])), (2, (.invokespecial 38, 3, [2, 157, 1, 1, 664])), (5, (.aastore, 1, [])), (6, (.aload_n 0, 1, [])), (7, (.getfield 17, 3, [2, 1, 0, 432])), (10, (.iload_n 1, 1, [])), (11, (.aaload, 1, [])), (12, (.aload_n 2, 1, [])), (13, (.invokevirtual 39, 3, [2, 156, 2, 0, 665]))], [(0, (.aload_n 0, 1, [])), (1, (.getfield 20, 3, [2, 2, 0, 433])), (4, (.iload_n 1, 1, [])), (5, (.iconst 1, 1, [1])), (6, (.bastore, 1, [2])), (7, (.return_, 1, []))]]
set_option maxRecDepth 100000 in
theorem sx_q_X2_fillBox : sx_t_X2_fillBox = sx_cT sx_d_X2_fillBox := rfl
set_option maxRecDepth 100000 in
theorem sx_y_X2_fillBox : sx_yOk 128 sx_t_X2_fillBox := sx_yok0 (by decide +kernel) sx_q_X2_fillBox (by decide +kernel)
def sx_d_X2_init : List (List (Nat × sx_I)) := [[(0, (.aload_n 0, 1, [])), (1, (.invokespecial 3, 3, [0, 428])), (4, (.aload_n 0, 1, [])), (5, (.bipush 41, 2, [41])), (7, (.anewarray 11, 3, [429])), (10, (.putfield 13, 3, [2, 0, 1, 0, 1, 431])), (13, (.aload_n 0, 1, [])), (14, (.iconst 3, 1, [3])), (15, (.anewarray 11, 3, [429]))], [(2, (.putfield 17, 3, [2, 1, 1, 0, 1, 432])), (5, (.aload_n 0, 1, [])), (6, (.iconst 3, 1, [3])), (7, (.newarray .boolean, 2, [2])), (9, (.putfield 20, 3, [2, 2, 1, 0, 1, 433])), (12, (.aload_n 0, 1, [])), (13, (.iconst 0, 1, [0])), (14, (.putfield 24, 3, [2, 3, 0, 0, 0, 434]))], [(1, (.aload_n 0, 1, [])), (2, (.iconst 0, 1, [0])), (3, (.putfield 28, 3, [2, 4, 0, 0, 0, 435])), (6, (.aload_n 0, 1, [])), (7, (.iconst 0, 1, [0])), (8, (.putfield 31, 3, [2, 5, 0, 0, 0, 437])), (11, (.return_, 1, []))]]
set_option maxRecDepth 100000 in
theorem sx_q_X2_init : sx_t_X2_init = sx_cT sx_d_X2_init := rfl
set_option maxRecDepth 100000 in
theorem sx_y_X2_init : sx_yOk 129 sx_t_X2_init := sx_yok1 (by decide +kernel) (by decide +kernel) sx_q_X2_init (by decide +kernel)
def sx_d_X2_keepAct : List (List (Nat × sx_I)) := [[(0, (.aload_n 0, 1, [])), (1, (.getfield 28, 3, [2, 4, 0, 435])), (4, (.bipush 40, 2, [40])), (6, (.if_icmp .lt 19, 3, [25]))], [(9, (.aload_n 0, 1, [])), (10, (.dup, 1, [])), (11, (.getfield 28, 3, [2, 4, 0, 435])), (14, (.iconst 1, 1, [1])), (15, (.iadd, 1, []))], [(0, (.putfield 28, 3, [2, 4, 0, 0, 0, 435])), (3, (.aload_n 0, 1, [])), (4, (.iconst 0, 1, [0])), (5, (.putfield 31, 3, [2, 5, 0, 0, 0, 437])), (8, (.aload_n 0, 1, [])), (9, (.aload_n 0, 1, [])), (10, (.getfield 24, 3, [2, 3, 0, 434])), (13, (.aload_n 0, 1, [])), (14, (.getfield 28, 3, [2, 4, 0, 435]))], [(1, (.iadd, 1, [])), (2, (.bipush 41, 2, [41])), (4, (.irem, 1, [])), (5, (.aload_n 1, 1, [])), (6, (.invokevirtual 34, 3, [2, 131, 3, 0, 660])), (9, (.return_, 1, []))]]
set_option maxRecDepth 100000 in
theorem sx_q_X2_keepAct : sx_t_X2_keepAct = sx_cT sx_d_X2_keepAct := rfl
set_option maxRecDepth 100000 in
theorem sx_y_X2_keepAct : sx_yOk 130 sx_t_X2_keepAct := sx_yok0 (by decide +kernel) sx_q_X2_keepAct (by decide +kernel)
def sx_d_X2_keepAt : List (List (Nat × sx_I)) := [[(0, (.iload_n 1, 1, [])), (1, (.ifCond .lt 9, 3, [10])), (4, (.iload_n 1, 1, [])), (5, (.bipush 41, 2, [41])), (7, (.if_icmp .lt 4, 3, [11])), (11, (.aload_n 0, 1, [])), (12, (.getfield 13, 3, [2, 0, 0, 431])), (15, (.iload_n 1, 1, []))], [(0, (.aaload, 1, [])), (1, (.ifnonnull 16, 3, [33])), (4, (.aload_n 0, 1, [])), (5, (.getfield 13, 3, [2, 0, 0, 431])), (8, (.iload_n 1, 1, [])), (9, (.new 11, 3, [8, 429])), (12, (.dup, 1, [])), (13, (.invokespecial 38, 3, [2, 157, 1, 1, 664]))], [(0, (.aastore, 1, [])), (1, (.aload_n 0, 1, [])), (2, (.getfield 13, 3, [2, 0, 0, 431])), (5, (.iload_n 1, 1, [])), (6, (.aaload, 1, [])), (7, (.aload_n 2, 1, [])), (8, (.invokevirtual 39, 3, [2, 156, 2, 0, 665])), (11, (.return_, 1, []))]]
set_option maxRecDepth 100000 in
theorem sx_q_X2_keepAt : sx_t_X2_keepAt = sx_cT sx_d_X2_keepAt := rfl
set_option maxRecDepth 100000 in
theorem sx_y_X2_keepAt : sx_yOk 131 sx_t_X2_keepAt := sx_yok0 (by decide +kernel) sx_q_X2_keepAt (by decide +kernel)
def sx_d_X2_restart : List (List (Nat × sx_I)) := [[(0, (.aload_n 0, 1, [])), (1, (.iconst 0, 1, [0])), (2, (.putfield 24, 3, [2, 3, 0, 0, 0, 434])), (5, (.aload_n 0, 1, [])), (6, (.iconst 0, 1, [0])), (7, (.putfield 28, 3, [2, 4, 0, 0, 0, 435])), (10, (.aload_n 0, 1, [])), (11, (.iconst 0, 1, [0])), (12, (.putfield 31, 3, [2, 5, 0, 0, 0, 437])), (15, (.aload_n 0, 1, []))], [(0, (.iconst 0, 1, [0])), (1, (.aload_n 1, 1, [])), (2, (.invokevirtual 34, 3, [2, 131, 3, 0, 660])), (5, (.return_, 1, []))]]
set_option maxRecDepth 100000 in
theorem sx_q_X2_restart : sx_t_X2_restart = sx_cT sx_d_X2_restart := rfl
set_option maxRecDepth 100000 in
theorem sx_y_X2_restart : sx_yOk 132 sx_t_X2_restart := sx_yok0 (by decide +kernel) sx_q_X2_restart (by decide +kernel)
def sx_d_X2_stepBack : List (List (Nat × sx_I)) := [[(0, (.aload_n 0, 1, [])), (1, (.getfield 28, 3, [2, 4, 0, 435])), (4, (.ifCond .gt 5, 3, [9])), (7, (.iconst 0, 1, [0])), (8, (.ireturn, 1, [1]))]]
set_option maxRecDepth 100000 in
theorem sx_q_X2_stepBack : sx_t_X2_stepBack = sx_cT sx_d_X2_stepBack := rfl
set_option maxRecDepth 100000 in
theorem sx_y_X2_stepBack : sx_yOk 133 sx_t_X2_stepBack := sx_yok0 (by decide +kernel) sx_q_X2_stepBack (by decide +kernel)
def sx_d_X2_stepForth : List (List (Nat × sx_I)) := [[(0, (.aload_n 0, 1, [])), (1, (.getfield 31, 3, [2, 5, 0, 437])), (4, (.ifCond .gt 5, 3, [9])), (7, (.iconst 0, 1, [0])), (8, (.ireturn, 1, [1]))]]
set_option maxRecDepth 100000 in
theorem sx_q_X2_stepForth : sx_t_X2_stepForth = sx_cT sx_d_X2_stepForth := rfl
set_option maxRecDepth 100000 in
theorem sx_y_X2_stepForth : sx_yOk 134 sx_t_X2_stepForth := sx_yok0 (by decide +kernel) sx_q_X2_stepForth (by decide +kernel)
def sx_d_X2_takeFromBox : List (List (Nat × sx_I)) := [[(0, (.aload_n 0, 1, [])), (1, (.getfield 20, 3, [2, 2, 0, 433])), (4, (.iload_n 1, 1, [])), (5, (.baload, 1, [2])), (6, (.ifCond .eq 12, 3, [18]))], [(2, (.iconst 0, 1, [0])), (3, (.ireturn, 1, [1]))]]
set_option maxRecDepth 100000 in
theorem sx_q_X2_takeFromBox : sx_t_X2_takeFromBox = sx_cT sx_d_X2_takeFromBox := rfl
set_option maxRecDepth 100000 in
theorem sx_y_X2_takeFromBox : sx_yOk 135 sx_t_X2_takeFromBox := sx_yok0 (by decide +kernel) sx_q_X2_takeFromBox (by decide +kernel)
def sx_d_X3_extend : List (List (Nat × sx_I)) := [[(0, (.iload_n 1, 1, [])), (1, (.istore_n 3, 1, [])), (2, (.iload_n 3, 1, [])), (3, (.aload_n 0, 1, [])), (4, (.getfield 21, 3, [3, 0, 0, 555])), (7, (.getfield 29, 3, [10, 0, 1, 210])), (10, (.if_icmp .ge 17, 3, [27]))], [(11, (.iload_n 3, 1, [])), (12, (.aload_n 0, 1, [])), (13, (.getfield 21, 3, [3, 0, 0, 555]))], [(0, (.getfield 29, 3, [10, 0, 1, 210])), (3, (.if_icmp .lt 8, 3, [43])), (6, (.aload_n 0, 1, [])), (7, (.invokevirtual 61, 3, [2, 139, 1, 0, 1622])), (10, (.return_, 1, []))]]
set_option maxRecDepth 100000 in
theorem sx_q_X3_extend : sx_t_X3_extend = sx_cT sx_d_X3_extend := rfl
set_option maxRecDepth 100000 in
theorem sx_y_X3_extend : sx_yOk 136 sx_t_X3_extend := sx_yok0 (by decide +kernel) sx_q_X3_extend (by decide +kernel)
def sx_d_X3_init : List (List (Nat × sx_I)) := [[(0, (.aload_n 0, 1, [])), (1, (.invokespecial 3, 3, [0, 554])), (4, (.aload_n 0, 1, [])), (5, (.bipush 8, 2, [8])), (7, (.newarray .int, 2, [0])), (9, (.putfield 9, 3, [3, 2, 1, 0, 1, 557])), (12, (.aload_n 0, 1, [])), (13, (.bipush 8, 2, [8])), (15, (.newarray .int, 2, [0]))], [(1, (.putfield 15, 3, [3, 3, 1, 0, 1, 558])), (4, (.aload_n 0, 1, [])), (5, (.bipush 8, 2, [8])), (7, (.newarray .int, 2, [0])), (9, (.putfield 18, 3, [3, 4, 1, 0, 1, 560])), (12, (.aload_n 0, 1, [])), (13, (.aload_n 1, 1, [])), (14, (.putfield 21, 3, [3, 0, 1, 0, 1, 555]))], [(1, (.aload_n 0, 1, [])), (2, (.aload_n 2, 1, [])), (3, (.putfield 25, 3, [3, 1, 1, 0, 1, 556])), (6, (.return_, 1, []))]]
set_option maxRecDepth 100000 in
theorem sx_q_X3_init : sx_t_X3_init = sx_cT sx_d_X3_init := rfl
set_option maxRecDepth 100000 in
theorem sx_y_X3_init : sx_yOk 137 sx_t_X3_init := sx_yok1 (by decide +kernel) (by decide +kernel) sx_q_X3_init (by decide +kernel)
def sx_d_X3_isFast : List (List (Nat × sx_I)) := [[(0, (.iconst 0, 1, [0])), (1, (.istore_n 1, 1, [])), (2, (.iload_n 1, 1, [])), (3, (.aload_n 0, 1, [])), (4, (.getfield 21, 3, [3, 0, 0, 555])), (7, (.getfield 29, 3, [10, 0, 1, 210])), (10, (.if_icmp .ge 98, 3, [108]))], [], [], [], [], [], [(12, (.iconst 1, 1, [1])), (13, (.ireturn, 1, [1]))]]
set_option maxRecDepth 100000 in
theorem sx_q_X3_isFast : sx_t_X3_isFast = sx_cT sx_d_X3_isFast := rfl
set_option maxRecDepth 100000 in
theorem sx_y_X3_isFast : sx_yOk 138 sx_t_X3_isFast := sx_yok0 (by decide +kernel) sx_q_X3_isFast (by decide +kernel)
def sx_d_X3_judge : List (List (Nat × sx_I)) := [[(0, (.iconst 0, 1, [0])), (1, (.istore_n 1, 1, [])), (2, (.iconst 0, 1, [0])), (3, (.istore_n 2, 1, [])), (4, (.iload_n 2, 1, [])), (5, (.aload_n 0, 1, [])), (6, (.getfield 21, 3, [3, 0, 0, 555])), (9, (.getfield 29, 3, [10, 0, 1, 210])), (12, (.if_icmp .ge 32, 3, [44]))], [], [(12, (.aload_n 0, 1, [])), (13, (.getfield 46, 3, [3, 5, 0, 562]))], [(0, (.ifCond .eq 11, 3, [59])), (11, (.aload_n 0, 1, [])), (12, (.iconst 1, 1, [1])), (13, (.putfield 46, 3, [3, 5, 2, 0, 0, 562]))], [(0, (.aload_n 0, 1, [])), (1, (.iload_n 1, 1, [])), (2, (.putfield 68, 3, [3, 6, 0, 0, 0, 563])), (5, (.aload_n 0, 1, [])), (6, (.getfield 9, 3, [3, 2, 0, 557])), (9, (.iconst 0, 1, [0])), (10, (.aload_n 0, 1, [])), (11, (.getfield 15, 3, [3, 3, 0, 558])), (14, (.iconst 0, 1, [0])), (15, (.bipush 8, 2, [8]))], [(1, (.invokestatic 71, 3, [1, 1632])), (4, (.aload_n 0, 1, [])), (5, (.invokevirtual 77, 3, [2, 138, 1, 0, 1633])), (8, (.ifCond .eq 40, 3, [128])), (11, (.aload_n 0, 1, [])), (12, (.getfield 50, 3, [3, 8, 0, 567])), (15, (.ifCond .ne 23, 3, [118]))], [(2, (.aload_n 0, 1, [])), (3, (.iload_n 1, 1, [])), (4, (.putfield 81, 3, [3, 7, 0, 0, 0, 565])), (7, (.aload_n 0, 1, [])), (8, (.getfield 9, 3, [3, 2, 0, 557])), (11, (.iconst 0, 1, [0])), (12, (.aload_n 0, 1, [])), (13, (.getfield 18, 3, [3, 4, 0, 560]))], [(0, (.iconst 0, 1, [0])), (1, (.bipush 8, 2, [8])), (3, (.invokestatic 71, 3, [1, 1632])), (6, (.aload_n 0, 1, [])), (7, (.dup, 1, [])), (8, (.getfield 50, 3, [3, 8, 0, 567])), (11, (.iconst 1, 1, [1])), (12, (.iadd, 1, [])), (13, (.putfield 50, 3, [3, 8, 0, 0, 0, 567]))], [(0, (.return_, 1, []))]]
set_option maxRecDepth 100000 in
theorem sx_q_X3_judge : sx_t_X3_judge = sx_cT sx_d_X3_judge := rfl
set_option maxRecDepth 100000 in
theorem sx_y_X3_judge : sx_yOk 139 sx_t_X3_judge := sx_yok0 (by decide +kernel) sx_q_X3_judge (by decide +kernel)
def sx_d_X3_search : List (List (Nat × sx_I)) := [[(0, (.iconst 0, 1, [0])), (1, (.istore_n 1, 1, [])), (2, (.iconst 0, 1, [0])), (3, (.istore_n 2, 1, [])), (4, (.iload_n 2, 1, [])), (5, (.aload_n 0, 1, [])), (6, (.getfield 21, 3, [3, 0, 0, 555])), (9, (.getfield 29, 3, [10, 0, 1, 210])), (12, (.if_icmp .ge 21, 3, [33]))], [], [(1, (.aload_n 0, 1, [])), (2, (.getfield 9, 3, [3, 2, 0, 557])), (5, (.bipush (-2), 2, [4294967294])), (7, (.invokestatic 40, 3, [2, 1, 2, 0, 1613])), (10, (.aload_n 0, 1, [])), (11, (.iconst 0, 1, [0])), (12, (.putfield 46, 3, [3, 5, 2, 0, 0, 562])), (15, (.aload_n 0, 1, []))], [(0, (.iconst 0, 1, [0])), (1, (.putfield 50, 3, [3, 8, 0, 0, 0, 567])), (4, (.aload_n 0, 1, [])), (5, (.iconst 0, 1, [0])), (6, (.iload_n 1, 1, [])), (7, (.iconst 2, 1, [2])), (8, (.irem, 1, [])), (9, (.iconst 1, 1, [1])), (10, (.if_icmp .ne 7, 3, [65]))], [(1, (.iconst 0, 1, [0])), (2, (.invokevirtual 53, 3, [2, 136, 3, 0, 1614])), (5, (.return_, 1, []))]]
set_option maxRecDepth 100000 in
theorem sx_q_X3_search : sx_t_X3_search = sx_cT sx_d_X3_search := rfl
set_option maxRecDepth 100000 in
theorem sx_y_X3_search : sx_yOk 140 sx_t_X3_search := sx_yok0 (by decide +kernel) sx_q_X3_search (by decide +kernel)
