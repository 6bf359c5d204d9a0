/-! data of methods, 3 -/
def sx_d_X12_alibis : List (List (Nat × sx_I)) := [[(0, (.aload_n 0, 1, [])), (1, (.iconst 0, 1, [0])), (2, (.putfield 398, 3, [12, 56, 0, 0, 0, 1861])), (5, (.aload_n 0, 1, [])), (6, (.iload_n 1, 1, [])), (7, (.invokevirtual 440, 3, [2, 95, 2, 0, 2231])), (10, (.ifCond .ne 5, 3, [15])), (13, (.iconst (-1), 1, [4294967295])), (14, (.ireturn, 1, []))]]
set_option maxRecDepth 100000 in
theorem sx_q_X12_alibis : sx_t_X12_alibis = sx_cT sx_d_X12_alibis := rfl
set_option maxRecDepth 100000 in
theorem sx_y_X12_alibis : sx_yOk 62 sx_t_X12_alibis := sx_yok0 (by decide +kernel) sx_q_X12_alibis (by decide +kernel)
def sx_d_X12_back : List (List (Nat × sx_I)) := [[(0, (.iload_n 1, 1, [])), (1, (.iconst 0, 1, [0])), (2, (.iconst 2, 1, [2])), (3, (.invokestatic 379, 3, [2, 94, 3, 0, 2212])), (6, (.ifCond .eq 12, 3, [18])), (9, (.aload_n 0, 1, [])), (10, (.getfield 158, 3, [12, 79, 0, 1884])), (13, (.iload_n 1, 1, [])), (14, (.baload, 1, [2])), (15, (.ifCond .ne 5, 3, [20]))], [(2, (.iconst (-1), 1, [4294967295])), (3, (.ireturn, 1, []))]]
set_option maxRecDepth 100000 in
theorem sx_q_X12_back : sx_t_X12_back = sx_cT sx_d_X12_back := rfl
set_option maxRecDepth 100000 in
theorem sx_y_X12_back : sx_yOk 63 sx_t_X12_back := sx_yok0 (by decide +kernel) sx_q_X12_back (by decide +kernel)
def sx_d_X12_bitsOf : List (List (Nat × sx_I)) := [[(0, (.iconst 0, 1, [0])), (1, (.istore_n 1, 1, [])), (2, (.iload_n 0, 1, [])), (3, (.istore_n 2, 1, [])), (4, (.iload_n 2, 1, [])), (5, (.ifCond .eq 15, 3, [20]))], [(4, (.iload_n 1, 1, [])), (5, (.ireturn, 1, []))]]
set_option maxRecDepth 100000 in
theorem sx_q_X12_bitsOf : sx_t_X12_bitsOf = sx_cT sx_d_X12_bitsOf := rfl
set_option maxRecDepth 100000 in
theorem sx_y_X12_bitsOf : sx_yOk 64 sx_t_X12_bitsOf := sx_yok0 (by decide +kernel) sx_q_X12_bitsOf (by decide +kernel)
def sx_d_X12_breaks : List (List (Nat × sx_I)) := [[(0, (.aload_n 0, 1, [])), (1, (.iload_n 1, 1, [])), (2, (.iload_n 2, 1, [])), (3, (.invokevirtual 496, 3, [2, 66, 3, 0, 2413])), (6, (.ifCond .ne 6, 3, [12])), (9, (.bipush (-2), 2, [4294967294])), (11, (.ireturn, 1, []))]]
set_option maxRecDepth 100000 in
theorem sx_q_X12_breaks : sx_t_X12_breaks = sx_cT sx_d_X12_breaks := rfl
set_option maxRecDepth 100000 in
theorem sx_y_X12_breaks : sx_yOk 65 sx_t_X12_breaks := sx_yok0 (by decide +kernel) sx_q_X12_breaks (by decide +kernel)
def sx_d_X12_canBargain : List (List (Nat × sx_I)) := [[(0, (.aload_n 0, 1, [])), (1, (.iload_n 1, 1, [])), (2, (.invokevirtual 440, 3, [2, 95, 2, 0, 2231])), (5, (.ifCond .eq 21, 3, [26]))], [(10, (.iconst 0, 1, [0])), (11, (.ireturn, 1, [1]))]]
set_option maxRecDepth 100000 in
theorem sx_q_X12_canBargain : sx_t_X12_canBargain = sx_cT sx_d_X12_canBargain := rfl
set_option maxRecDepth 100000 in
theorem sx_y_X12_canBargain : sx_yOk 66 sx_t_X12_canBargain := sx_yok0 (by decide +kernel) sx_q_X12_canBargain (by decide +kernel)
def sx_d_X12_cares : List (List (Nat × sx_I)) := [[(0, (.aload_n 0, 1, [])), (1, (.iload_n 1, 1, [])), (2, (.iload_n 2, 1, [])), (3, (.invokevirtual 496, 3, [2, 66, 3, 0, 2413])), (6, (.ifCond .ne 6, 3, [12])), (9, (.bipush (-2), 2, [4294967294])), (11, (.ireturn, 1, []))]]
set_option maxRecDepth 100000 in
theorem sx_q_X12_cares : sx_t_X12_cares = sx_cT sx_d_X12_cares := rfl
set_option maxRecDepth 100000 in
theorem sx_y_X12_cares : sx_yOk 67 sx_t_X12_cares := sx_yok0 (by decide +kernel) sx_q_X12_cares (by decide +kernel)
def sx_d_X12_chooses : List (List (Nat × sx_I)) := [[(0, (.aload_n 0, 1, [])), (1, (.iload_n 1, 1, [])), (2, (.invokevirtual 440, 3, [2, 95, 2, 0, 2231])), (5, (.ifCond .eq 13, 3, [18]))], [(2, (.bipush (-2), 2, [4294967294])), (4, (.ireturn, 1, []))]]
set_option maxRecDepth 100000 in
theorem sx_q_X12_chooses : sx_t_X12_chooses = sx_cT sx_d_X12_chooses := rfl
set_option maxRecDepth 100000 in
theorem sx_y_X12_chooses : sx_yOk 68 sx_t_X12_chooses := sx_yok0 (by decide +kernel) sx_q_X12_chooses (by decide +kernel)
def sx_d_X12_clearBank : List (List (Nat × sx_I)) := [[(0, (.aload_n 0, 1, [])), (1, (.getfield 20, 3, [12, 11, 0, 1816])), (4, (.aload_n 0, 1, [])), (5, (.getfield 268, 3, [12, 40, 0, 1845])), (8, (.iconst 0, 1, [0])), (9, (.iastore, 1, [])), (10, (.aload_n 0, 1, [])), (11, (.getfield 24, 3, [12, 12, 0, 1817])), (14, (.aload_n 0, 1, [])), (15, (.getfield 268, 3, [12, 40, 0, 1845]))], [(2, (.iconst 0, 1, [0])), (3, (.iastore, 1, [])), (4, (.aload_n 0, 1, [])), (5, (.getfield 27, 3, [12, 13, 0, 1818])), (8, (.aload_n 0, 1, [])), (9, (.getfield 268, 3, [12, 40, 0, 1845])), (12, (.iconst 0, 1, [0])), (13, (.iastore, 1, [])), (14, (.aload_n 0, 1, [])), (15, (.getfield 30, 3, [12, 14, 0, 1819]))], [(2, (.aload_n 0, 1, [])), (3, (.getfield 268, 3, [12, 40, 0, 1845])), (6, (.iconst 0, 1, [0])), (7, (.iastore, 1, [])), (8, (.aload_n 0, 1, [])), (9, (.getfield 33, 3, [12, 15, 0, 1820])), (12, (.aload_n 0, 1, [])), (13, (.getfield 268, 3, [12, 40, 0, 1845]))], [(0, (.iconst 0, 1, [0])), (1, (.iastore, 1, [])), (2, (.aload_n 0, 1, [])), (3, (.getfield 36, 3, [12, 16, 0, 1821])), (6, (.aload_n 0, 1, [])), (7, (.getfield 268, 3, [12, 40, 0, 1845])), (10, (.iconst 0, 1, [0])), (11, (.iastore, 1, [])), (12, (.aload_n 0, 1, [])), (13, (.getfield 72, 3, [12, 28, 0, 1833]))], [(0, (.aload_n 0, 1, [])), (1, (.getfield 268, 3, [12, 40, 0, 1845])), (4, (.iconst 0, 1, [0])), (5, (.bastore, 1, [2])), (6, (.aload_n 0, 1, [])), (7, (.sipush 640, 3, [640])), (10, (.aload_n 0, 1, [])), (11, (.getfield 268, 3, [12, 40, 0, 1845])), (14, (.imul, 1, [])), (15, (.putfield 271, 3, [12, 41, 0, 0, 0, 1846]))], [(2, (.bipush 64, 2, [64])), (4, (.aload_n 0, 1, [])), (5, (.getfield 268, 3, [12, 40, 0, 1845])), (8, (.imul, 1, [])), (9, (.istore_n 1, 1, [])), (10, (.iload_n 1, 1, [])), (11, (.bipush 64, 2, [64])), (13, (.aload_n 0, 1, [])), (14, (.getfield 268, 3, [12, 40, 0, 1845]))], [(1, (.imul, 1, [])), (2, (.bipush 64, 2, [64])), (4, (.iadd, 1, [])), (5, (.if_icmp .ge 23, 3, [124])), (8, (.aload_n 0, 1, [])), (9, (.getfield 51, 3, [12, 21, 0, 1826])), (12, (.iload_n 1, 1, [])), (13, (.iconst 0, 1, [0])), (14, (.iastore, 1, [])), (15, (.aload_n 0, 1, []))], [(0, (.getfield 79, 3, [12, 30, 0, 1835])), (3, (.iload_n 1, 1, [])), (4, (.iconst 0, 1, [0])), (5, (.bastore, 1, [2])), (6, (.iinc 1 1, 3, [1])), (9, (.goto (-31), 3, [90])), (12, (.return_, 1, []))]]
set_option maxRecDepth 100000 in
theorem sx_q_X12_clearBank : sx_t_X12_clearBank = sx_cT sx_d_X12_clearBank := rfl
set_option maxRecDepth 100000 in
theorem sx_y_X12_clearBank : sx_yOk 69 sx_t_X12_clearBank := sx_yok0 (by decide +kernel) sx_q_X12_clearBank (by decide +kernel)
def sx_d_X12_clearVotes : List (List (Nat × sx_I)) := [[(0, (.iconst 0, 1, [0])), (1, (.istore_n 1, 1, [])), (2, (.iload_n 1, 1, [])), (3, (.iconst 3, 1, [3])), (4, (.if_icmp .ge 16, 3, [20])), (7, (.aload_n 0, 1, [])), (8, (.getfield 134, 3, [12, 64, 0, 1869])), (11, (.iload_n 1, 1, [])), (12, (.iconst 0, 1, [0])), (13, (.iastore, 1, [])), (14, (.iinc 1 1, 3, [1]))], [(1, (.goto (-15), 3, [2])), (4, (.return_, 1, []))]]
set_option maxRecDepth 100000 in
theorem sx_q_X12_clearVotes : sx_t_X12_clearVotes = sx_cT sx_d_X12_clearVotes := rfl
set_option maxRecDepth 100000 in
theorem sx_y_X12_clearVotes : sx_yOk 70 sx_t_X12_clearVotes := sx_yok0 (by decide +kernel) sx_q_X12_clearVotes (by decide +kernel)
def sx_d_X12_days : List (List (Nat × sx_I)) := [[(0, (.iload_n 1, 1, [])), (1, (.iconst 0, 1, [0])), (2, (.bipush 60, 2, [60])), (4, (.invokestatic 379, 3, [2, 94, 3, 0, 2212])), (7, (.ifCond .eq 17, 3, [24])), (10, (.aload_n 0, 1, [])), (11, (.getfield 107, 3, [12, 49, 0, 1854])), (14, (.iconst 0, 1, [0])), (15, (.iaload, 1, []))], [(0, (.iload_n 1, 1, [])), (1, (.iadd, 1, [])), (2, (.sipush 900, 3, [900])), (5, (.if_icmp .le 5, 3, [26])), (8, (.iconst (-1), 1, [4294967295])), (9, (.ireturn, 1, [])), (10, (.aload_n 0, 1, [])), (11, (.invokevirtual 456, 3, [2, 98, 1, 0, 2322])), (14, (.iconst 0, 1, [0])), (15, (.istore_n 2, 1, []))], [(0, (.iload_n 2, 1, [])), (1, (.iload_n 1, 1, [])), (2, (.if_icmp .ge 51, 3, [85])), (5, (.iconst 0, 1, [0])), (6, (.istore_n 3, 1, [])), (7, (.iload_n 3, 1, [])), (8, (.aload_n 0, 1, [])), (9, (.getfield 27, 3, [12, 13, 0, 1818])), (12, (.aload_n 0, 1, [])), (13, (.getfield 277, 3, [12, 39, 0, 1844]))], [(0, (.iaload, 1, [])), (1, (.if_icmp .ge 20, 3, [69]))], [(5, (.aload_n 0, 1, [])), (6, (.getfield 107, 3, [12, 49, 0, 1854])), (9, (.iconst 0, 1, [0])), (10, (.dup2, 1, [])), (11, (.iaload, 1, [])), (12, (.iconst 1, 1, [1])), (13, (.iadd, 1, [])), (14, (.iastore, 1, [])), (15, (.iinc 2 1, 3, [1]))], [(2, (.goto (-50), 3, [32])), (5, (.aload_n 0, 1, [])), (6, (.getfield 107, 3, [12, 49, 0, 1854])), (9, (.iconst 0, 1, [0])), (10, (.iaload, 1, [])), (11, (.ireturn, 1, []))]]
set_option maxRecDepth 100000 in
theorem sx_q_X12_days : sx_t_X12_days = sx_cT sx_d_X12_days := rfl
set_option maxRecDepth 100000 in
theorem sx_y_X12_days : sx_yOk 71 sx_t_X12_days := sx_yok0 (by decide +kernel) sx_q_X12_days (by decide +kernel)
def sx_d_X12_decree : List (List (Nat × sx_I)) := [[(0, (.aload_n 0, 1, [])), (1, (.iload_n 1, 1, [])), (2, (.invokevirtual 440, 3, [2, 95, 2, 0, 2231])), (5, (.ifCond .eq 37, 3, [42]))], [], [(10, (.ldc_w 452, 3, [3294967296, 2306])), (13, (.ireturn, 1, []))]]
set_option maxRecDepth 100000 in
theorem sx_q_X12_decree : sx_t_X12_decree = sx_cT sx_d_X12_decree := rfl
set_option maxRecDepth 100000 in
theorem sx_y_X12_decree : sx_yOk 72 sx_t_X12_decree := sx_yok0 (by decide +kernel) sx_q_X12_decree (by decide +kernel)
def sx_d_X12_die : List (List (Nat × sx_I)) := [[(0, (.aload_n 0, 1, [])), (1, (.iload_n 1, 1, [])), (2, (.invokevirtual 383, 3, [2, 93, 2, 0, 2208])), (5, (.ifCond .ne 5, 3, [10])), (8, (.iconst (-1), 1, [4294967295])), (9, (.ireturn, 1, []))]]
set_option maxRecDepth 100000 in
theorem sx_q_X12_die : sx_t_X12_die = sx_cT sx_d_X12_die := rfl
set_option maxRecDepth 100000 in
theorem sx_y_X12_die : sx_yOk 73 sx_t_X12_die := sx_yok0 (by decide +kernel) sx_q_X12_die (by decide +kernel)
def sx_d_X12_elected : List (List (Nat × sx_I)) := [[(0, (.iload_n 1, 1, [])), (1, (.iconst 0, 1, [0])), (2, (.sipush 999, 3, [999])), (5, (.invokestatic 379, 3, [2, 94, 3, 0, 2212])), (8, (.ifCond .eq 11, 3, [19])), (11, (.aload_n 0, 1, [])), (12, (.iload_n 1, 1, [])), (13, (.invokevirtual 544, 3, [2, 75, 2, 0, 2480]))], [(0, (.goto 4, 3, [20])), (3, (.iconst (-1), 1, [4294967295])), (4, (.ireturn, 1, []))]]
set_option maxRecDepth 100000 in
theorem sx_q_X12_elected : sx_t_X12_elected = sx_cT sx_d_X12_elected := rfl
set_option maxRecDepth 100000 in
theorem sx_y_X12_elected : sx_yOk 74 sx_t_X12_elected := sx_yok0 (by decide +kernel) sx_q_X12_elected (by decide +kernel)
def sx_d_X12_electedOn : List (List (Nat × sx_I)) := [[(0, (.aload_n 0, 1, [])), (1, (.invokevirtual 538, 3, [2, 70, 1, 0, 2484])), (4, (.iconst 0, 1, [0])), (5, (.istore_n 2, 1, [])), (6, (.iload_n 2, 1, [])), (7, (.aload_n 0, 1, [])), (8, (.getfield 27, 3, [12, 13, 0, 1818])), (11, (.aload_n 0, 1, [])), (12, (.getfield 277, 3, [12, 39, 0, 1844])), (15, (.iaload, 1, []))], [(0, (.if_icmp .ge 43, 3, [59]))], [], [(11, (.aload_n 0, 1, [])), (12, (.invokevirtual 541, 3, [2, 104, 1, 0, 2488])), (15, (.ireturn, 1, []))]]
set_option maxRecDepth 100000 in
theorem sx_q_X12_electedOn : sx_t_X12_electedOn = sx_cT sx_d_X12_electedOn := rfl
set_option maxRecDepth 100000 in
theorem sx_y_X12_electedOn : sx_yOk 75 sx_t_X12_electedOn := sx_yok0 (by decide +kernel) sx_q_X12_electedOn (by decide +kernel)
def sx_d_X12_end : List (List (Nat × sx_I)) := [[(0, (.iload_n 1, 1, [])), (1, (.ifCond .lt 11, 3, [12])), (4, (.iload_n 1, 1, [])), (5, (.aload_n 0, 1, [])), (6, (.getfield 274, 3, [12, 2, 0, 1807])), (9, (.if_icmp .le 5, 3, [14])), (12, (.iconst (-1), 1, [4294967295])), (13, (.ireturn, 1, [])), (14, (.aload_n 0, 1, [])), (15, (.iload_n 1, 1, []))], [(0, (.putfield 274, 3, [12, 2, 0, 0, 0, 1807])), (3, (.iload_n 1, 1, [])), (4, (.ireturn, 1, []))]]
set_option maxRecDepth 100000 in
theorem sx_q_X12_end : sx_t_X12_end = sx_cT sx_d_X12_end := rfl
set_option maxRecDepth 100000 in
theorem sx_y_X12_end : sx_yOk 76 sx_t_X12_end := sx_yok0 (by decide +kernel) sx_q_X12_end (by decide +kernel)
def sx_d_X12_exchange : List (List (Nat × sx_I)) := [[(0, (.aload_n 0, 1, [])), (1, (.iload_n 1, 1, [])), (2, (.invokevirtual 440, 3, [2, 95, 2, 0, 2231])), (5, (.ifCond .eq 38, 3, [43]))], [], [(11, (.iconst 0, 1, [0])), (12, (.ireturn, 1, [1]))]]
set_option maxRecDepth 100000 in
theorem sx_q_X12_exchange : sx_t_X12_exchange = sx_cT sx_d_X12_exchange := rfl
set_option maxRecDepth 100000 in
theorem sx_y_X12_exchange : sx_yOk 77 sx_t_X12_exchange := sx_yok0 (by decide +kernel) sx_q_X12_exchange (by decide +kernel)
def sx_d_X12_fast : List (List (Nat × sx_I)) := [[(0, (.aload_n 0, 1, [])), (1, (.iconst 0, 1, [0])), (2, (.invokevirtual 535, 3, [2, 83, 2, 0, 2441])), (5, (.aload_n 0, 1, [])), (6, (.getfield 512, 3, [12, 61, 0, 1866])), (9, (.ireturn, 1, []))]]
set_option maxRecDepth 100000 in
theorem sx_q_X12_fast : sx_t_X12_fast = sx_cT sx_d_X12_fast := rfl
set_option maxRecDepth 100000 in
theorem sx_y_X12_fast : sx_yOk 78 sx_t_X12_fast := sx_yok0 (by decide +kernel) sx_q_X12_fast (by decide +kernel)
def sx_d_X12_fault : List (List (Nat × sx_I)) := [[(0, (.iload_n 1, 1, [])), (1, (.ifCond .ne 10, 3, [11])), (4, (.aload_n 0, 1, [])), (5, (.getfield 170, 3, [12, 4, 0, 1809])), (8, (.goto 16, 3, [24])), (11, (.iload_n 1, 1, [])), (12, (.iconst 1, 1, [1])), (13, (.if_icmp .ne 10, 3, [23]))], [(0, (.aload_n 0, 1, [])), (1, (.getfield 16, 3, [12, 5, 0, 1810])), (4, (.goto 4, 3, [24])), (7, (.iconst (-1), 1, [4294967295])), (8, (.ireturn, 1, []))]]
set_option maxRecDepth 100000 in
theorem sx_q_X12_fault : sx_t_X12_fault = sx_cT sx_d_X12_fault := rfl
set_option maxRecDepth 100000 in
theorem sx_y_X12_fault : sx_yOk 79 sx_t_X12_fault := sx_yok0 (by decide +kernel) sx_q_X12_fault (by decide +kernel)
def sx_d_X12_feed : List (List (Nat × sx_I)) := [[(0, (.aload_n 0, 1, [])), (1, (.getfield 274, 3, [12, 2, 0, 1807])), (4, (.bipush 20, 2, [20])), (6, (.iadd, 1, [])), (7, (.sipush 1600, 3, [1600])), (10, (.if_icmp .le 5, 3, [15])), (15, (.iconst 0, 1, [0]))], [(0, (.istore 6, 2, [])), (2, (.iload 6, 2, [])), (4, (.bipush 20, 2, [20])), (6, (.if_icmp .ge 83, 3, [105])), (9, (.iload 6, 2, [])), (11, (.iconst 4, 1, [4])), (12, (.if_icmp .ge 7, 3, [35])), (15, (.iload_n 1, 1, []))], [(0, (.goto 39, 3, [71])), (3, (.iload 6, 2, [])), (5, (.bipush 8, 2, [8])), (7, (.if_icmp .ge 7, 3, [46])), (10, (.iload_n 2, 1, [])), (11, (.goto 28, 3, [71])), (14, (.iload 6, 2, []))], [(0, (.bipush 12, 2, [12])), (2, (.if_icmp .ge 7, 3, [57])), (5, (.iload_n 3, 1, [])), (6, (.goto 17, 3, [71])), (9, (.iload 6, 2, [])), (11, (.bipush 16, 2, [16])), (13, (.if_icmp .ge 8, 3, [69]))], [(0, (.iload 4, 2, [])), (2, (.goto 5, 3, [71])), (5, (.iload 5, 2, [])), (7, (.istore 7, 2, [])), (9, (.aload_n 0, 1, [])), (10, (.getfield 7, 3, [12, 0, 0, 1805])), (13, (.aload_n 0, 1, [])), (14, (.getfield 274, 3, [12, 2, 0, 1807]))], [(1, (.iload 6, 2, [])), (3, (.iadd, 1, [])), (4, (.iload 7, 2, [])), (6, (.bipush 24, 2, [24])), (8, (.bipush 8, 2, [8])), (10, (.iload 6, 2, [])), (12, (.iconst 3, 1, [3])), (13, (.iand, 1, [])), (14, (.imul, 1, [])), (15, (.isub, 1, []))], [(0, (.ishr, 1, [])), (1, (.i2b, 1, [])), (2, (.bastore, 1, [3])), (3, (.iinc 6 1, 3, [1])), (6, (.goto (-84), 3, [18])), (9, (.aload_n 0, 1, [])), (10, (.dup, 1, [])), (11, (.getfield 274, 3, [12, 2, 0, 1807])), (14, (.bipush 20, 2, [20]))], [(0, (.iadd, 1, [])), (1, (.putfield 274, 3, [12, 2, 0, 0, 0, 1807])), (4, (.aload_n 0, 1, [])), (5, (.getfield 274, 3, [12, 2, 0, 1807])), (8, (.ireturn, 1, []))]]
set_option maxRecDepth 100000 in
theorem sx_q_X12_feed : sx_t_X12_feed = sx_cT sx_d_X12_feed := rfl
set_option maxRecDepth 100000 in
theorem sx_y_X12_feed : sx_yOk 80 sx_t_X12_feed := sx_yok0 (by decide +kernel) sx_q_X12_feed (by decide +kernel)
def sx_d_X12_firstFree : List (List (Nat × sx_I)) := [[(0, (.iconst 0, 1, [0])), (1, (.istore_n 1, 1, [])), (2, (.iload_n 1, 1, [])), (3, (.aload_n 0, 1, [])), (4, (.getfield 20, 3, [12, 11, 0, 1816])), (7, (.aload_n 0, 1, [])), (8, (.getfield 277, 3, [12, 39, 0, 1844])), (11, (.iaload, 1, [])), (12, (.if_icmp .ge 28, 3, [40]))], [], [(8, (.iconst (-1), 1, [4294967295])), (9, (.ireturn, 1, []))]]
set_option maxRecDepth 100000 in
theorem sx_q_X12_firstFree : sx_t_X12_firstFree = sx_cT sx_d_X12_firstFree := rfl
set_option maxRecDepth 100000 in
theorem sx_y_X12_firstFree : sx_yOk 81 sx_t_X12_firstFree := sx_yok0 (by decide +kernel) sx_q_X12_firstFree (by decide +kernel)
def sx_d_X12_goOn : List (List (Nat × sx_I)) := [[(0, (.aload_n 0, 1, [])), (1, (.aload_n 0, 1, [])), (2, (.getfield 209, 3, [12, 7, 0, 1812])), (5, (.putfield 212, 3, [12, 6, 0, 0, 0, 1811])), (8, (.aload_n 0, 1, [])), (9, (.getfield 212, 3, [12, 6, 0, 1811])), (12, (.aload_n 0, 1, [])), (13, (.getfield 167, 3, [12, 3, 0, 1808]))], [(0, (.if_icmp .ge 42, 3, [58]))], [], [(10, (.aload_n 0, 1, [])), (11, (.aload_n 0, 1, [])), (12, (.getfield 212, 3, [12, 6, 0, 1811])), (15, (.invokevirtual 215, 3, [2, 116, 2, 0, 2054]))], [(2, (.istore_n 1, 1, [])), (3, (.aload_n 0, 1, [])), (4, (.aload_n 0, 1, [])), (5, (.getfield 212, 3, [12, 6, 0, 1811])), (8, (.iconst 1, 1, [1])), (9, (.iadd, 1, [])), (10, (.putfield 209, 3, [12, 7, 0, 0, 0, 1812])), (13, (.aload_n 0, 1, [])), (14, (.getfield 212, 3, [12, 6, 0, 1811]))], [(1, (.aload_n 0, 1, [])), (2, (.getfield 167, 3, [12, 3, 0, 1808])), (5, (.if_icmp .lt 27, 3, [112])), (8, (.aload_n 0, 1, [])), (9, (.iconst 0, 1, [0])), (10, (.putfield 219, 3, [12, 8, 0, 0, 0, 1813])), (13, (.aload_n 0, 1, [])), (14, (.aload_n 0, 1, [])), (15, (.getfield 167, 3, [12, 3, 0, 1808]))], [(2, (.putfield 212, 3, [12, 6, 0, 0, 0, 1811])), (5, (.aload_n 0, 1, [])), (6, (.aload_n 0, 1, [])), (7, (.getfield 167, 3, [12, 3, 0, 1808])), (10, (.putfield 209, 3, [12, 7, 0, 0, 0, 1812])), (13, (.goto 268, 3, [377]))], [], [], [], [], [], [], [], [], [], [], [], [], [], [], [], [], [(9, (.return_, 1, []))]]
set_option maxRecDepth 100000 in
theorem sx_q_X12_goOn : sx_t_X12_goOn = sx_cT sx_d_X12_goOn := rfl
set_option maxRecDepth 100000 in
theorem sx_y_X12_goOn : sx_yOk 82 sx_t_X12_goOn := sx_yok0 (by decide +kernel) sx_q_X12_goOn (by decide +kernel)
def sx_d_X12_goThrough : List (List (Nat × sx_I)) := [[(0, (.aload_n 0, 1, [])), (1, (.getfield 107, 3, [12, 49, 0, 1854])), (4, (.iconst 2, 1, [2])), (5, (.iaload, 1, [])), (6, (.invokestatic 509, 3, [2, 64, 1, 0, 2445])), (9, (.iconst 2, 1, [2])), (10, (.irem, 1, [])), (11, (.iconst 1, 1, [1])), (12, (.if_icmp .ne 7, 3, [19]))], [(3, (.iconst 0, 1, [0])), (4, (.istore_n 2, 1, [])), (5, (.iconst 0, 1, [0])), (6, (.istore_n 3, 1, [])), (7, (.iconst 0, 1, [0])), (8, (.istore 4, 2, [])), (10, (.ldc_w 452, 3, [3294967296, 2306])), (13, (.istore 5, 2, [])), (15, (.aload_n 0, 1, []))], [(0, (.iconst 0, 1, [0])), (1, (.putfield 512, 3, [12, 61, 0, 0, 0, 1866])), (4, (.iconst 0, 1, [0])), (5, (.istore 6, 2, [])), (7, (.iload 6, 2, [])), (9, (.bipush 8, 2, [8])), (11, (.if_icmp .ge 17, 3, [60])), (14, (.aload_n 0, 1, [])), (15, (.getfield 125, 3, [12, 59, 0, 1864]))], [(2, (.iload 6, 2, [])), (4, (.iconst (-1), 1, [4294967295])), (5, (.iastore, 1, [])), (6, (.iinc 6 1, 3, [1])), (9, (.goto (-18), 3, [39])), (12, (.aload_n 0, 1, [])), (13, (.getfield 131, 3, [12, 62, 0, 1867]))], [(0, (.iconst 0, 1, [0])), (1, (.aload_n 0, 1, [])), (2, (.invokevirtual 515, 3, [2, 81, 1, 0, 2448])), (5, (.iastore, 1, [])), (6, (.aload_n 0, 1, [])), (7, (.getfield 131, 3, [12, 62, 0, 1867])), (10, (.iconst 0, 1, [0])), (11, (.iaload, 1, [])), (12, (.istore 6, 2, [])), (14, (.iload 4, 2, []))], [(0, (.ifCond .lt 230, 3, [310])), (3, (.aload_n 0, 1, [])), (4, (.getfield 131, 3, [12, 62, 0, 1867])), (7, (.iload 4, 2, [])), (9, (.iaload, 1, [])), (10, (.istore 7, 2, [])), (12, (.iload 6, 2, [])), (14, (.istore 8, 2, []))], [(0, (.iload 7, 2, [])), (2, (.ifCond .lt 47, 3, [145]))], [], [], [(1, (.iload 7, 2, [])), (3, (.ifCond .lt 78, 3, [225]))], [], [], [], [], [(1, (.iload 7, 2, [])), (3, (.ifCond .ge 12, 3, [239])), (6, (.aload_n 0, 1, [])), (7, (.iload 5, 2, [])), (9, (.iload_n 1, 1, [])), (10, (.invokevirtual 522, 3, [2, 121, 3, 0, 2456])), (13, (.istore 5, 2, [])), (15, (.iinc 4 (-1), 3, [4294967295]))], [(2, (.iload 4, 2, [])), (4, (.ifCond .ge 6, 3, [250])), (7, (.goto (-169), 3, [78]))], [], [], [], [(6, (.aload_n 0, 1, [])), (7, (.iload 5, 2, [])), (9, (.putfield 526, 3, [12, 63, 0, 0, 0, 1868])), (12, (.return_, 1, []))]]
set_option maxRecDepth 100000 in
theorem sx_q_X12_goThrough : sx_t_X12_goThrough = sx_cT sx_d_X12_goThrough := rfl
set_option maxRecDepth 100000 in
theorem sx_y_X12_goThrough : sx_yOk 83 sx_t_X12_goThrough := sx_yok0 (by decide +kernel) sx_q_X12_goThrough (by decide +kernel)
