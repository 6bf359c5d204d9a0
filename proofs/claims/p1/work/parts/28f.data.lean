/-! data of methods, 5 -/
def sx_d_X12_keeps : List (List (Nat × sx_I)) := [[(0, (.aload_n 0, 1, [])), (1, (.iload_n 1, 1, [])), (2, (.iload_n 3, 1, [])), (3, (.invokevirtual 496, 3, [2, 66, 3, 0, 2413])), (6, (.ifCond .eq 31, 3, [37]))], [], [(5, (.ldc_w 452, 3, [3294967296, 2306])), (8, (.ireturn, 1, []))]]
set_option maxRecDepth 100000 in
theorem sx_q_X12_keeps : sx_t_X12_keeps = sx_cT sx_d_X12_keeps := rfl
set_option maxRecDepth 100000 in
theorem sx_y_X12_keeps : sx_yOk 99 sx_t_X12_keeps := sx_yok0 (by decide +kernel) sx_q_X12_keeps (by decide +kernel)
def sx_d_X12_later : List (List (Nat × sx_I)) := [[(0, (.iload_n 1, 1, [])), (1, (.iconst 0, 1, [0])), (2, (.sipush 1000, 3, [1000])), (5, (.invokestatic 379, 3, [2, 94, 3, 0, 2212])), (8, (.ifCond .eq 15, 3, [23])), (11, (.aload_n 0, 1, [])), (12, (.getfield 550, 3, [12, 72, 0, 1877])), (15, (.iload_n 1, 1, []))], [(0, (.iadd, 1, [])), (1, (.ldc_w 556, 3, [100000, 2521])), (4, (.if_icmp .le 5, 3, [25])), (7, (.iconst (-1), 1, [4294967295])), (8, (.ireturn, 1, [])), (9, (.aload_n 0, 1, [])), (10, (.dup, 1, [])), (11, (.getfield 550, 3, [12, 72, 0, 1877])), (14, (.iload_n 1, 1, [])), (15, (.iadd, 1, []))], [(0, (.putfield 550, 3, [12, 72, 0, 0, 0, 1877])), (3, (.aload_n 0, 1, [])), (4, (.getfield 550, 3, [12, 72, 0, 1877])), (7, (.ireturn, 1, []))]]
set_option maxRecDepth 100000 in
theorem sx_q_X12_later : sx_t_X12_later = sx_cT sx_d_X12_later := rfl
set_option maxRecDepth 100000 in
theorem sx_y_X12_later : sx_yOk 100 sx_t_X12_later := sx_yok0 (by decide +kernel) sx_q_X12_later (by decide +kernel)
def sx_d_X12_lies : List (List (Nat × sx_I)) := [[(0, (.iload_n 1, 1, [])), (1, (.iconst 0, 1, [0])), (2, (.aload_n 0, 1, [])), (3, (.getfield 398, 3, [12, 56, 0, 1861])), (6, (.iconst 1, 1, [1])), (7, (.isub, 1, [])), (8, (.invokestatic 379, 3, [2, 94, 3, 0, 2212])), (11, (.ifCond .eq 12, 3, [23]))], [(7, (.iconst (-1), 1, [4294967295])), (8, (.ireturn, 1, []))]]
set_option maxRecDepth 100000 in
theorem sx_q_X12_lies : sx_t_X12_lies = sx_cT sx_d_X12_lies := rfl
set_option maxRecDepth 100000 in
theorem sx_y_X12_lies : sx_yOk 101 sx_t_X12_lies := sx_yok0 (by decide +kernel) sx_q_X12_lies (by decide +kernel)
def sx_d_X12_likedInAll : List (List (Nat × sx_I)) := [[(0, (.iconst 0, 1, [0])), (1, (.istore_n 1, 1, [])), (2, (.iconst 0, 1, [0])), (3, (.istore_n 2, 1, [])), (4, (.iload_n 2, 1, [])), (5, (.aload_n 0, 1, [])), (6, (.getfield 20, 3, [12, 11, 0, 1816])), (9, (.aload_n 0, 1, [])), (10, (.getfield 277, 3, [12, 39, 0, 1844])), (13, (.iaload, 1, [])), (14, (.if_icmp .ge 29, 3, [43]))], [], [(11, (.iload_n 1, 1, [])), (12, (.ireturn, 1, []))]]
set_option maxRecDepth 100000 in
theorem sx_q_X12_likedInAll : sx_t_X12_likedInAll = sx_cT sx_d_X12_likedInAll := rfl
set_option maxRecDepth 100000 in
theorem sx_y_X12_likedInAll : sx_yOk 102 sx_t_X12_likedInAll := sx_yok0 (by decide +kernel) sx_q_X12_likedInAll (by decide +kernel)
def sx_d_X12_likes : List (List (Nat × sx_I)) := [[(0, (.aload_n 0, 1, [])), (1, (.iload_n 1, 1, [])), (2, (.invokevirtual 383, 3, [2, 93, 2, 0, 2208])), (5, (.ifCond .eq 25, 3, [30]))], [(14, (.iconst (-1), 1, [4294967295])), (15, (.ireturn, 1, []))]]
set_option maxRecDepth 100000 in
theorem sx_q_X12_likes : sx_t_X12_likes = sx_cT sx_d_X12_likes := rfl
set_option maxRecDepth 100000 in
theorem sx_y_X12_likes : sx_yOk 103 sx_t_X12_likes := sx_yok0 (by decide +kernel) sx_q_X12_likes (by decide +kernel)
def sx_d_X12_mostVotes : List (List (Nat × sx_I)) := [[(0, (.iconst 0, 1, [0])), (1, (.istore_n 1, 1, [])), (2, (.iconst 1, 1, [1])), (3, (.istore_n 2, 1, [])), (4, (.iload_n 2, 1, [])), (5, (.iconst 3, 1, [3])), (6, (.if_icmp .ge 26, 3, [32])), (9, (.aload_n 0, 1, [])), (10, (.getfield 134, 3, [12, 64, 0, 1869])), (13, (.iload_n 2, 1, [])), (14, (.iaload, 1, [])), (15, (.aload_n 0, 1, []))], [(0, (.getfield 134, 3, [12, 64, 0, 1869])), (3, (.iload_n 1, 1, [])), (4, (.iaload, 1, [])), (5, (.if_icmp .le 5, 3, [26])), (10, (.iinc 2 1, 3, [1])), (13, (.goto (-25), 3, [4]))], [(0, (.aload_n 0, 1, [])), (1, (.getfield 134, 3, [12, 64, 0, 1869])), (4, (.iload_n 1, 1, [])), (5, (.iaload, 1, [])), (6, (.ifCond .ne 7, 3, [45])), (9, (.iconst (-1), 1, [4294967295])), (10, (.goto 4, 3, [46])), (14, (.ireturn, 1, []))]]
set_option maxRecDepth 100000 in
theorem sx_q_X12_mostVotes : sx_t_X12_mostVotes = sx_cT sx_d_X12_mostVotes := rfl
set_option maxRecDepth 100000 in
theorem sx_y_X12_mostVotes : sx_yOk 104 sx_t_X12_mostVotes := sx_yok0 (by decide +kernel) sx_q_X12_mostVotes (by decide +kernel)
def sx_d_X12_next : List (List (Nat × sx_I)) := [[(0, (.aload_n 0, 1, [])), (1, (.iload_n 1, 1, [])), (2, (.invokevirtual 449, 3, [2, 90, 2, 0, 2302])), (5, (.ifCond .eq 12, 3, [17]))], [(1, (.iconst (-1), 1, [4294967295])), (2, (.ireturn, 1, []))]]
set_option maxRecDepth 100000 in
theorem sx_q_X12_next : sx_t_X12_next = sx_cT sx_d_X12_next := rfl
set_option maxRecDepth 100000 in
theorem sx_y_X12_next : sx_yOk 105 sx_t_X12_next := sx_yok0 (by decide +kernel) sx_q_X12_next (by decide +kernel)
def sx_d_X12_pairing : List (List (Nat × sx_I)) := [[(0, (.aload_n 0, 1, [])), (1, (.iconst 0, 1, [0])), (2, (.putfield 398, 3, [12, 56, 0, 0, 0, 1861])), (5, (.aload_n 0, 1, [])), (6, (.iload_n 1, 1, [])), (7, (.ifCond .ne 7, 3, [14])), (10, (.iconst 1, 1, [1])), (11, (.goto 4, 3, [15])), (14, (.iconst 0, 1, [0])), (15, (.invokevirtual 535, 3, [2, 83, 2, 0, 2441]))], [(2, (.aload_n 0, 1, [])), (3, (.getfield 526, 3, [12, 63, 0, 1868])), (6, (.ldc_w 452, 3, [3294967296, 2306])), (9, (.if_icmp .ne 7, 3, [32]))], [(0, (.iconst 0, 1, [0])), (1, (.istore_n 2, 1, [])), (2, (.iload_n 2, 1, [])), (3, (.aload_n 0, 1, [])), (4, (.getfield 20, 3, [12, 11, 0, 1816])), (7, (.aload_n 0, 1, [])), (8, (.getfield 277, 3, [12, 39, 0, 1844])), (11, (.iaload, 1, [])), (12, (.if_icmp .ge 35, 3, [79]))], [], [(15, (.aload_n 0, 1, []))], [(0, (.aload_n 0, 1, [])), (1, (.getfield 20, 3, [12, 11, 0, 1816])), (4, (.aload_n 0, 1, [])), (5, (.getfield 277, 3, [12, 39, 0, 1844])), (8, (.iaload, 1, [])), (9, (.putfield 398, 3, [12, 56, 0, 0, 0, 1861])), (12, (.aload_n 0, 1, [])), (13, (.getfield 526, 3, [12, 63, 0, 1868]))], [(0, (.ireturn, 1, []))]]
set_option maxRecDepth 100000 in
theorem sx_q_X12_pairing : sx_t_X12_pairing = sx_cT sx_d_X12_pairing := rfl
set_option maxRecDepth 100000 in
theorem sx_y_X12_pairing : sx_yOk 106 sx_t_X12_pairing := sx_yok0 (by decide +kernel) sx_q_X12_pairing (by decide +kernel)
def sx_d_X12_person : List (List (Nat × sx_I)) := [[(0, (.aload_n 0, 1, [])), (1, (.iload_n 1, 1, [])), (2, (.invokevirtual 440, 3, [2, 95, 2, 0, 2231])), (5, (.ifCond .ne 5, 3, [10])), (8, (.iconst (-1), 1, [4294967295])), (9, (.ireturn, 1, []))]]
set_option maxRecDepth 100000 in
theorem sx_q_X12_person : sx_t_X12_person = sx_cT sx_d_X12_person := rfl
set_option maxRecDepth 100000 in
theorem sx_y_X12_person : sx_yOk 107 sx_t_X12_person := sx_yok0 (by decide +kernel) sx_q_X12_person (by decide +kernel)
def sx_d_X12_played : List (List (Nat × sx_I)) := [[(0, (.aload_n 0, 1, [])), (1, (.iconst 0, 1, [0])), (2, (.putfield 398, 3, [12, 56, 0, 0, 0, 1861])), (5, (.aload_n 0, 1, [])), (6, (.iload_n 1, 1, [])), (7, (.invokevirtual 440, 3, [2, 95, 2, 0, 2231])), (10, (.ifCond .eq 19, 3, [29]))], [(13, (.ldc_w 452, 3, [3294967296, 2306]))], [(0, (.ireturn, 1, []))]]
set_option maxRecDepth 100000 in
theorem sx_q_X12_played : sx_t_X12_played = sx_cT sx_d_X12_played := rfl
set_option maxRecDepth 100000 in
theorem sx_y_X12_played : sx_yOk 108 sx_t_X12_played := sx_yok0 (by decide +kernel) sx_q_X12_played (by decide +kernel)
def sx_d_X12_popular : List (List (Nat × sx_I)) := [[(0, (.aload_n 0, 1, [])), (1, (.invokevirtual 538, 3, [2, 70, 1, 0, 2484])), (4, (.iconst 0, 1, [0])), (5, (.istore_n 1, 1, [])), (6, (.iload_n 1, 1, [])), (7, (.aload_n 0, 1, [])), (8, (.getfield 20, 3, [12, 11, 0, 1816])), (11, (.aload_n 0, 1, [])), (12, (.getfield 277, 3, [12, 39, 0, 1844])), (15, (.iaload, 1, []))], [(0, (.if_icmp .ge 40, 3, [56]))], [], [(8, (.aload_n 0, 1, [])), (9, (.invokevirtual 541, 3, [2, 104, 1, 0, 2488])), (12, (.ireturn, 1, []))]]
set_option maxRecDepth 100000 in
theorem sx_q_X12_popular : sx_t_X12_popular = sx_cT sx_d_X12_popular := rfl
set_option maxRecDepth 100000 in
theorem sx_y_X12_popular : sx_yOk 109 sx_t_X12_popular := sx_yok0 (by decide +kernel) sx_q_X12_popular (by decide +kernel)
def sx_d_X12_prank : List (List (Nat × sx_I)) := [[(0, (.aload_n 0, 1, [])), (1, (.getfield 27, 3, [12, 13, 0, 1818])), (4, (.aload_n 0, 1, [])), (5, (.getfield 277, 3, [12, 39, 0, 1844])), (8, (.iaload, 1, [])), (9, (.ifCond .ne 5, 3, [14])), (12, (.iconst (-1), 1, [4294967295])), (13, (.ireturn, 1, []))]]
set_option maxRecDepth 100000 in
theorem sx_q_X12_prank : sx_t_X12_prank = sx_cT sx_d_X12_prank := rfl
set_option maxRecDepth 100000 in
theorem sx_y_X12_prank : sx_yOk 110 sx_t_X12_prank := sx_yok0 (by decide +kernel) sx_q_X12_prank (by decide +kernel)
def sx_d_X12_record : List (List (Nat × sx_I)) := [[(0, (.aload_n 0, 1, [])), (1, (.iload_n 1, 1, [])), (2, (.invokevirtual 383, 3, [2, 93, 2, 0, 2208])), (5, (.ifCond .eq 16, 3, [21]))], [(5, (.ldc_w 452, 3, [3294967296, 2306])), (8, (.ireturn, 1, []))]]
set_option maxRecDepth 100000 in
theorem sx_q_X12_record : sx_t_X12_record = sx_cT sx_d_X12_record := rfl
set_option maxRecDepth 100000 in
theorem sx_y_X12_record : sx_yOk 111 sx_t_X12_record := sx_yok0 (by decide +kernel) sx_q_X12_record (by decide +kernel)
def sx_d_X12_redo : List (List (Nat × sx_I)) := [[(0, (.aload_n 0, 1, [])), (1, (.getfield 389, 3, [12, 52, 0, 1857])), (4, (.ifCond .ne 5, 3, [9])), (7, (.iconst 0, 1, [0])), (8, (.ireturn, 1, [1]))]]
set_option maxRecDepth 100000 in
theorem sx_q_X12_redo : sx_t_X12_redo = sx_cT sx_d_X12_redo := rfl
set_option maxRecDepth 100000 in
theorem sx_y_X12_redo : sx_yOk 112 sx_t_X12_redo := sx_yok0 (by decide +kernel) sx_q_X12_redo (by decide +kernel)
def sx_d_X12_register : List (List (Nat × sx_I)) := [[(0, (.aload_n 0, 1, [])), (1, (.iconst 0, 1, [0])), (2, (.putfield 170, 3, [12, 4, 0, 0, 0, 1809])), (5, (.aload_n 0, 1, [])), (6, (.iconst (-1), 1, [4294967295])), (7, (.putfield 16, 3, [12, 5, 0, 0, 0, 1810])), (10, (.aload_n 0, 1, [])), (11, (.aload_n 0, 1, [])), (12, (.getfield 274, 3, [12, 2, 0, 1807])), (15, (.putfield 167, 3, [12, 3, 0, 0, 0, 1808]))], [(2, (.iconst 0, 1, [0])), (3, (.istore_n 1, 1, [])), (4, (.iload_n 1, 1, [])), (5, (.aload_n 0, 1, [])), (6, (.getfield 167, 3, [12, 3, 0, 1808])), (9, (.if_icmp .ge 21, 3, [46]))], [(14, (.aload_n 0, 1, [])), (15, (.iconst 0, 1, [0]))], [(0, (.putfield 274, 3, [12, 2, 0, 0, 0, 1807])), (3, (.aload_n 0, 1, [])), (4, (.iconst 0, 1, [0])), (5, (.putfield 209, 3, [12, 7, 0, 0, 0, 1812])), (8, (.aload_n 0, 1, [])), (9, (.iconst 1, 1, [1])), (10, (.aload_n 0, 1, [])), (11, (.getfield 277, 3, [12, 39, 0, 1844])), (14, (.isub, 1, [])), (15, (.putfield 268, 3, [12, 40, 0, 0, 0, 1845]))], [(2, (.aload_n 0, 1, [])), (3, (.invokevirtual 161, 3, [2, 69, 1, 0, 1797])), (6, (.aload_n 0, 1, [])), (7, (.invokevirtual 251, 3, [2, 82, 1, 0, 2050])), (10, (.aload_n 0, 1, [])), (11, (.invokevirtual 247, 3, [2, 92, 1, 0, 2088])), (14, (.ifCond .eq 17, 3, [95]))], [(1, (.aload_n 0, 1, [])), (2, (.getfield 219, 3, [12, 8, 0, 1813])), (5, (.ifCond .eq 10, 3, [95])), (15, (.aload_n 0, 1, []))], [(0, (.invokevirtual 247, 3, [2, 92, 1, 0, 2088])), (3, (.ifCond .ne 5, 3, [104])), (8, (.aload_n 0, 1, [])), (9, (.aload_n 0, 1, [])), (10, (.getfield 268, 3, [12, 40, 0, 1845])), (13, (.putfield 277, 3, [12, 39, 0, 0, 0, 1844]))], [(0, (.aload_n 0, 1, [])), (1, (.invokevirtual 164, 3, [2, 118, 1, 0, 1801])), (4, (.aload_n 0, 1, [])), (5, (.getfield 20, 3, [12, 11, 0, 1816])), (8, (.aload_n 0, 1, [])), (9, (.getfield 277, 3, [12, 39, 0, 1844])), (12, (.iaload, 1, [])), (13, (.ireturn, 1, []))]]
set_option maxRecDepth 100000 in
theorem sx_q_X12_register : sx_t_X12_register = sx_cT sx_d_X12_register := rfl
set_option maxRecDepth 100000 in
theorem sx_y_X12_register : sx_yOk 113 sx_t_X12_register := sx_yok0 (by decide +kernel) sx_q_X12_register (by decide +kernel)
def sx_d_X12_shown : List (List (Nat × sx_I)) := [[(0, (.iload_n 1, 1, [])), (1, (.iconst 0, 1, [0])), (2, (.bipush 99, 2, [99])), (4, (.invokestatic 379, 3, [2, 94, 3, 0, 2212])), (7, (.ifCond .eq 22, 3, [29])), (10, (.iload_n 2, 1, [])), (11, (.iconst 0, 1, [0])), (12, (.bipush 9, 2, [9])), (14, (.invokestatic 379, 3, [2, 94, 3, 0, 2212]))], [(1, (.ifCond .eq 12, 3, [29])), (4, (.aload_n 0, 1, [])), (5, (.getfield 395, 3, [12, 71, 0, 1876])), (8, (.bipush 30, 2, [30])), (10, (.if_icmp .ne 5, 3, [31])), (13, (.iconst (-1), 1, [4294967295])), (14, (.ireturn, 1, [])), (15, (.aload_n 0, 1, []))], [(0, (.iload_n 1, 1, [])), (1, (.iconst (-1), 1, [4294967295])), (2, (.iload_n 2, 1, [])), (3, (.invokevirtual 553, 3, [2, 61, 4, 0, 2505])), (6, (.ireturn, 1, []))]]
set_option maxRecDepth 100000 in
theorem sx_q_X12_shown : sx_t_X12_shown = sx_cT sx_d_X12_shown := rfl
set_option maxRecDepth 100000 in
theorem sx_y_X12_shown : sx_yOk 114 sx_t_X12_shown := sx_yok0 (by decide +kernel) sx_q_X12_shown (by decide +kernel)
def sx_d_X12_sight : List (List (Nat × sx_I)) := [[(0, (.iload_n 1, 1, [])), (1, (.iconst 0, 1, [0])), (2, (.bipush 99, 2, [99])), (4, (.invokestatic 379, 3, [2, 94, 3, 0, 2212])), (7, (.ifCond .eq 37, 3, [44])), (10, (.aload_n 0, 1, [])), (11, (.iload_n 2, 1, [])), (12, (.invokevirtual 383, 3, [2, 93, 2, 0, 2208])), (15, (.ifCond .eq 29, 3, [44]))], [], [(12, (.iconst (-1), 1, [4294967295])), (13, (.ireturn, 1, []))]]
set_option maxRecDepth 100000 in
theorem sx_q_X12_sight : sx_t_X12_sight = sx_cT sx_d_X12_sight := rfl
set_option maxRecDepth 100000 in
theorem sx_y_X12_sight : sx_yOk 115 sx_t_X12_sight := sx_yok0 (by decide +kernel) sx_q_X12_sight (by decide +kernel)
def sx_d_X12_sign : List (List (Nat × sx_I)) := [[(0, (.iload_n 1, 1, [])), (1, (.aload_n 0, 1, [])), (2, (.getfield 167, 3, [12, 3, 0, 1808])), (5, (.if_icmp .ge 16, 3, [21]))], [(5, (.iconst 0, 1, [0])), (6, (.ireturn, 1, []))]]
set_option maxRecDepth 100000 in
theorem sx_q_X12_sign : sx_t_X12_sign = sx_cT sx_d_X12_sign := rfl
set_option maxRecDepth 100000 in
theorem sx_y_X12_sign : sx_yOk 116 sx_t_X12_sign := sx_yok0 (by decide +kernel) sx_q_X12_sign (by decide +kernel)
def sx_d_X12_skillsSeen : List (List (Nat × sx_I)) := [[(0, (.iconst 0, 1, [0])), (1, (.istore_n 2, 1, [])), (2, (.iconst 0, 1, [0])), (3, (.istore_n 3, 1, [])), (4, (.iload_n 3, 1, [])), (5, (.aload_n 0, 1, [])), (6, (.getfield 395, 3, [12, 71, 0, 1876])), (9, (.if_icmp .ge 38, 3, [47]))], [], [(15, (.iload_n 2, 1, []))], [(0, (.ifCond .ne 7, 3, [55])), (3, (.iconst 1, 1, [1])), (4, (.goto 7, 3, [59])), (11, (.ireturn, 1, []))]]
set_option maxRecDepth 100000 in
theorem sx_q_X12_skillsSeen : sx_t_X12_skillsSeen = sx_cT sx_d_X12_skillsSeen := rfl
set_option maxRecDepth 100000 in
theorem sx_y_X12_skillsSeen : sx_yOk 117 sx_t_X12_skillsSeen := sx_yok0 (by decide +kernel) sx_q_X12_skillsSeen (by decide +kernel)
def sx_d_X12_startAnew : List (List (Nat × sx_I)) := [[(0, (.iconst 0, 1, [0])), (1, (.istore_n 1, 1, [])), (2, (.iload_n 1, 1, [])), (3, (.bipush 119, 2, [119])), (5, (.if_icmp .ge 16, 3, [21])), (8, (.aload_n 0, 1, [])), (9, (.getfield 107, 3, [12, 49, 0, 1854])), (12, (.iload_n 1, 1, [])), (13, (.iconst 0, 1, [0])), (14, (.iastore, 1, [])), (15, (.iinc 1 1, 3, [1]))], [(2, (.goto (-16), 3, [2])), (5, (.aload_n 0, 1, [])), (6, (.getfield 107, 3, [12, 49, 0, 1854])), (9, (.iconst 1, 1, [1])), (10, (.aload_n 0, 1, [])), (11, (.getfield 36, 3, [12, 16, 0, 1821])), (14, (.aload_n 0, 1, [])), (15, (.getfield 277, 3, [12, 39, 0, 1844]))], [(2, (.iaload, 1, [])), (3, (.iastore, 1, [])), (4, (.aload_n 0, 1, [])), (5, (.getfield 107, 3, [12, 49, 0, 1854])), (8, (.iconst 2, 1, [2])), (9, (.iconst 1, 1, [1])), (10, (.aload_n 0, 1, [])), (11, (.getfield 20, 3, [12, 11, 0, 1816])), (14, (.aload_n 0, 1, [])), (15, (.getfield 277, 3, [12, 39, 0, 1844]))], [(2, (.iaload, 1, [])), (3, (.ishl, 1, [])), (4, (.iconst 1, 1, [1])), (5, (.isub, 1, [])), (6, (.iastore, 1, [])), (7, (.iconst 0, 1, [0])), (8, (.istore_n 1, 1, [])), (9, (.iload_n 1, 1, [])), (10, (.bipush 56, 2, [56])), (12, (.if_icmp .ge 32, 3, [92])), (15, (.aload_n 0, 1, []))], [(0, (.getfield 107, 3, [12, 49, 0, 1854])), (3, (.bipush 7, 2, [7])), (5, (.iload_n 1, 1, [])), (6, (.iadd, 1, [])), (7, (.aload_n 0, 1, [])), (8, (.getfield 63, 3, [12, 25, 0, 1830])), (11, (.bipush 56, 2, [56])), (13, (.aload_n 0, 1, [])), (14, (.getfield 277, 3, [12, 39, 0, 1844]))], [(1, (.imul, 1, [])), (2, (.iload_n 1, 1, [])), (3, (.iadd, 1, [])), (4, (.iaload, 1, [])), (5, (.iastore, 1, [])), (6, (.iinc 1 1, 3, [1])), (9, (.goto (-32), 3, [57])), (12, (.aload_n 0, 1, [])), (13, (.iconst 0, 1, [0])), (14, (.putfield 386, 3, [12, 51, 0, 0, 0, 1856]))], [(1, (.aload_n 0, 1, [])), (2, (.iconst 0, 1, [0])), (3, (.putfield 389, 3, [12, 52, 0, 0, 0, 1857])), (6, (.aload_n 0, 1, [])), (7, (.iconst 0, 1, [0])), (8, (.putfield 392, 3, [12, 58, 0, 0, 0, 1863])), (11, (.aload_n 0, 1, [])), (12, (.iconst 0, 1, [0])), (13, (.putfield 395, 3, [12, 71, 0, 0, 0, 1876]))], [(0, (.aload_n 0, 1, [])), (1, (.iconst 0, 1, [0])), (2, (.putfield 398, 3, [12, 56, 0, 0, 0, 1861])), (5, (.iconst 0, 1, [0])), (6, (.istore_n 1, 1, [])), (7, (.iload_n 1, 1, [])), (8, (.iconst 3, 1, [3])), (9, (.if_icmp .ge 16, 3, [137])), (12, (.aload_n 0, 1, [])), (13, (.getfield 158, 3, [12, 79, 0, 1884]))], [(0, (.iload_n 1, 1, [])), (1, (.iconst 0, 1, [0])), (2, (.bastore, 1, [2])), (3, (.iinc 1 1, 3, [1])), (6, (.goto (-15), 3, [119])), (9, (.return_, 1, []))]]
set_option maxRecDepth 100000 in
theorem sx_q_X12_startAnew : sx_t_X12_startAnew = sx_cT sx_d_X12_startAnew := rfl
set_option maxRecDepth 100000 in
theorem sx_y_X12_startAnew : sx_yOk 118 sx_t_X12_startAnew := sx_yok0 (by decide +kernel) sx_q_X12_startAnew (by decide +kernel)
def sx_d_X12_stolen : List (List (Nat × sx_I)) := [[(0, (.iload_n 1, 1, [])), (1, (.iconst 0, 1, [0])), (2, (.bipush 99, 2, [99])), (4, (.invokestatic 379, 3, [2, 94, 3, 0, 2212])), (7, (.ifCond .ne 5, 3, [12])), (10, (.iconst (-1), 1, [4294967295])), (11, (.ireturn, 1, [])), (12, (.aload_n 0, 1, [])), (13, (.invokevirtual 547, 3, [2, 109, 1, 0, 2500]))], [(0, (.istore_n 2, 1, [])), (1, (.iconst 0, 1, [0])), (2, (.istore_n 3, 1, [])), (3, (.iconst 0, 1, [0])), (4, (.istore 4, 2, [])), (6, (.iload 4, 2, [])), (8, (.iload_n 1, 1, [])), (9, (.if_icmp .ge 43, 3, [68])), (12, (.aload_n 0, 1, [])), (13, (.aload_n 0, 1, [])), (14, (.getfield 107, 3, [12, 49, 0, 1854]))], [(1, (.iconst 0, 1, [0])), (2, (.iaload, 1, [])), (3, (.iload 4, 2, [])), (5, (.iadd, 1, [])), (6, (.invokevirtual 544, 3, [2, 75, 2, 0, 2480])), (9, (.istore 5, 2, [])), (11, (.iload_n 3, 1, [])), (12, (.iload 5, 2, [])), (14, (.ifCond .lt 9, 3, [55]))], [(7, (.iconst 1, 1, [1])), (8, (.goto 4, 3, [60])), (12, (.iadd, 1, [])), (13, (.istore_n 3, 1, [])), (14, (.iinc 4 1, 3, [1]))], [(1, (.goto (-43), 3, [22])), (4, (.iload_n 3, 1, [])), (5, (.ireturn, 1, []))]]
set_option maxRecDepth 100000 in
theorem sx_q_X12_stolen : sx_t_X12_stolen = sx_cT sx_d_X12_stolen := rfl
set_option maxRecDepth 100000 in
theorem sx_y_X12_stolen : sx_yOk 119 sx_t_X12_stolen := sx_yok0 (by decide +kernel) sx_q_X12_stolen (by decide +kernel)
