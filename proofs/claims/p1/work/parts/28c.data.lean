/-! data of methods, 2 -/
def sx_d_X11_keeps : List (List (Nat × sx_I)) := [[(0, (.aload_n 0, 1, [])), (1, (.getfield 20, 3, [11, 2, 0, 671])), (4, (.iload_n 1, 1, [])), (5, (.iload_n 2, 1, [])), (6, (.invokevirtual 235, 3, [2, 14, 3, 0, 1093])), (9, (.ifCond .eq 23, 3, [32]))], [], [(0, (.ldc 186, 2, [3294967296, 1005])), (2, (.ireturn, 1, []))]]
set_option maxRecDepth 100000 in
theorem sx_q_X11_keeps : sx_t_X11_keeps = sx_cT sx_d_X11_keeps := rfl
set_option maxRecDepth 100000 in
theorem sx_y_X11_keeps : sx_yOk 38 sx_t_X11_keeps := sx_yok0 (by decide +kernel) sx_q_X11_keeps (by decide +kernel)
def sx_d_X11_later : List (List (Nat × sx_I)) := [[(0, (.iload_n 1, 1, [])), (1, (.ifCond .lt 25, 3, [26])), (4, (.iload_n 1, 1, [])), (5, (.sipush 1000, 3, [1000])), (8, (.if_icmp .gt 18, 3, [26])), (11, (.aload_n 0, 1, [])), (12, (.getfield 94, 3, [11, 12, 0, 681])), (15, (.getfield 341, 3, [7, 7, 1, 603]))], [(2, (.iload_n 1, 1, [])), (3, (.iadd, 1, [])), (4, (.ldc_w 344, 3, [100000, 1711])), (7, (.if_icmp .le 5, 3, [28])), (10, (.iconst (-1), 1, [4294967295])), (11, (.ireturn, 1, [])), (12, (.aload_n 0, 1, [])), (13, (.getfield 94, 3, [11, 12, 0, 681]))], [(0, (.dup, 1, [])), (1, (.getfield 341, 3, [7, 7, 1, 603])), (4, (.iload_n 1, 1, [])), (5, (.iadd, 1, [])), (6, (.putfield 341, 3, [7, 7, 0, 1, 0, 603])), (9, (.aload_n 0, 1, [])), (10, (.getfield 94, 3, [11, 12, 0, 681])), (13, (.getfield 341, 3, [7, 7, 1, 603]))], [(0, (.ireturn, 1, []))]]
set_option maxRecDepth 100000 in
theorem sx_q_X11_later : sx_t_X11_later = sx_cT sx_d_X11_later := rfl
set_option maxRecDepth 100000 in
theorem sx_y_X11_later : sx_yOk 39 sx_t_X11_later := sx_yok0 (by decide +kernel) sx_q_X11_later (by decide +kernel)
def sx_d_X11_lies : List (List (Nat × sx_I)) := [[(0, (.aload_n 0, 1, [])), (1, (.getfield 52, 3, [11, 6, 0, 675])), (4, (.iload_n 1, 1, [])), (5, (.invokevirtual 331, 3, [2, 145, 2, 0, 1686])), (8, (.ireturn, 1, []))]]
set_option maxRecDepth 100000 in
theorem sx_q_X11_lies : sx_t_X11_lies = sx_cT sx_d_X11_lies := rfl
set_option maxRecDepth 100000 in
theorem sx_y_X11_lies : sx_yOk 40 sx_t_X11_lies := sx_yok0 (by decide +kernel) sx_q_X11_lies (by decide +kernel)
def sx_d_X11_likes : List (List (Nat × sx_I)) := [[(0, (.aload_n 0, 1, [])), (1, (.getfield 20, 3, [11, 2, 0, 671])), (4, (.iload_n 1, 1, [])), (5, (.invokevirtual 137, 3, [2, 11, 2, 0, 912])), (8, (.ifCond .eq 19, 3, [27]))], [(11, (.iconst (-1), 1, [4294967295])), (12, (.ireturn, 1, []))]]
set_option maxRecDepth 100000 in
theorem sx_q_X11_likes : sx_t_X11_likes = sx_cT sx_d_X11_likes := rfl
set_option maxRecDepth 100000 in
theorem sx_y_X11_likes : sx_yOk 41 sx_t_X11_likes := sx_yok0 (by decide +kernel) sx_q_X11_likes (by decide +kernel)
def sx_d_X11_next : List (List (Nat × sx_I)) := [[(0, (.aload_n 0, 1, [])), (1, (.getfield 20, 3, [11, 2, 0, 671])), (4, (.iload_n 1, 1, [])), (5, (.invokevirtual 193, 3, [2, 10, 2, 0, 1004])), (8, (.ifCond .eq 18, 3, [26]))], [(10, (.iconst (-1), 1, [4294967295])), (11, (.ireturn, 1, []))]]
set_option maxRecDepth 100000 in
theorem sx_q_X11_next : sx_t_X11_next = sx_cT sx_d_X11_next := rfl
set_option maxRecDepth 100000 in
theorem sx_y_X11_next : sx_yOk 42 sx_t_X11_next := sx_yok0 (by decide +kernel) sx_q_X11_next (by decide +kernel)
def sx_d_X11_pairing : List (List (Nat × sx_I)) := [[(0, (.aload_n 0, 1, [])), (1, (.getfield 85, 3, [11, 11, 0, 680])), (4, (.invokevirtual 300, 3, [2, 140, 1, 0, 1609])), (7, (.aload_n 0, 1, [])), (8, (.getfield 52, 3, [11, 6, 0, 675])), (11, (.invokevirtual 124, 3, [2, 146, 1, 0, 895])), (14, (.iload_n 1, 1, [])), (15, (.ifCond .eq 42, 3, [57]))], [(2, (.aload_n 0, 1, [])), (3, (.getfield 85, 3, [11, 11, 0, 680])), (6, (.getfield 302, 3, [3, 8, 1, 568])), (9, (.ifCond .ne 6, 3, [31])), (15, (.aload_n 0, 1, []))], [(0, (.getfield 85, 3, [11, 11, 0, 680])), (3, (.aload_n 0, 1, [])), (4, (.getfield 85, 3, [11, 11, 0, 680])), (7, (.getfield 305, 3, [3, 4, 1, 561])), (10, (.aload_n 0, 1, [])), (11, (.getfield 52, 3, [11, 6, 0, 675])), (14, (.invokevirtual 308, 3, [2, 141, 3, 0, 1637]))], [(1, (.aload_n 0, 1, [])), (2, (.getfield 85, 3, [11, 11, 0, 680])), (5, (.getfield 312, 3, [3, 7, 1, 566])), (8, (.ireturn, 1, [])), (9, (.aload_n 0, 1, [])), (10, (.getfield 85, 3, [11, 11, 0, 680])), (13, (.aload_n 0, 1, [])), (14, (.getfield 85, 3, [11, 11, 0, 680]))], [(1, (.getfield 315, 3, [3, 3, 1, 559])), (4, (.aload_n 0, 1, [])), (5, (.getfield 52, 3, [11, 6, 0, 675])), (8, (.invokevirtual 308, 3, [2, 141, 3, 0, 1637])), (11, (.aload_n 0, 1, [])), (12, (.getfield 85, 3, [11, 11, 0, 680])), (15, (.getfield 318, 3, [3, 6, 1, 564]))], [(2, (.ireturn, 1, []))]]
set_option maxRecDepth 100000 in
theorem sx_q_X11_pairing : sx_t_X11_pairing = sx_cT sx_d_X11_pairing := rfl
set_option maxRecDepth 100000 in
theorem sx_y_X11_pairing : sx_yOk 43 sx_t_X11_pairing := sx_yok0 (by decide +kernel) sx_q_X11_pairing (by decide +kernel)
def sx_d_X11_person : List (List (Nat × sx_I)) := [[(0, (.aload_n 0, 1, [])), (1, (.getfield 20, 3, [11, 2, 0, 671])), (4, (.iload_n 1, 1, [])), (5, (.invokevirtual 160, 3, [2, 12, 2, 0, 933])), (8, (.ifCond .ne 5, 3, [13])), (11, (.iconst (-1), 1, [4294967295])), (12, (.ireturn, 1, []))]]
set_option maxRecDepth 100000 in
theorem sx_q_X11_person : sx_t_X11_person = sx_cT sx_d_X11_person := rfl
set_option maxRecDepth 100000 in
theorem sx_y_X11_person : sx_yOk 44 sx_t_X11_person := sx_yok0 (by decide +kernel) sx_q_X11_person (by decide +kernel)
def sx_d_X11_played : List (List (Nat × sx_I)) := [[(0, (.aload_n 0, 1, [])), (1, (.getfield 52, 3, [11, 6, 0, 675])), (4, (.invokevirtual 124, 3, [2, 146, 1, 0, 895])), (7, (.aload_n 0, 1, [])), (8, (.getfield 20, 3, [11, 2, 0, 671])), (11, (.iload_n 1, 1, [])), (12, (.iload_n 2, 1, [])), (13, (.invokevirtual 235, 3, [2, 14, 3, 0, 1093]))], [(0, (.ifCond .eq 10, 3, [26])), (10, (.ldc 186, 2, [3294967296, 1005])), (12, (.ireturn, 1, []))]]
set_option maxRecDepth 100000 in
theorem sx_q_X11_played : sx_t_X11_played = sx_cT sx_d_X11_played := rfl
set_option maxRecDepth 100000 in
theorem sx_y_X11_played : sx_yOk 45 sx_t_X11_played := sx_yok0 (by decide +kernel) sx_q_X11_played (by decide +kernel)
def sx_d_X11_popular : List (List (Nat × sx_I)) := [[(0, (.aload_n 0, 1, [])), (1, (.getfield 61, 3, [11, 7, 0, 676])), (4, (.invokevirtual 324, 3, [2, 4, 1, 0, 1668])), (7, (.ireturn, 1, []))]]
set_option maxRecDepth 100000 in
theorem sx_q_X11_popular : sx_t_X11_popular = sx_cT sx_d_X11_popular := rfl
set_option maxRecDepth 100000 in
theorem sx_y_X11_popular : sx_yOk 46 sx_t_X11_popular := sx_yok0 (by decide +kernel) sx_q_X11_popular (by decide +kernel)
def sx_d_X11_prank : List (List (Nat × sx_I)) := [[(0, (.aload_n 0, 1, [])), (1, (.getfield 20, 3, [11, 2, 0, 671])), (4, (.getfield 219, 3, [10, 1, 1, 217])), (7, (.iconst 1, 1, [1])), (8, (.if_icmp .ge 5, 3, [13])), (11, (.iconst (-1), 1, [4294967295])), (12, (.ireturn, 1, []))]]
set_option maxRecDepth 100000 in
theorem sx_q_X11_prank : sx_t_X11_prank = sx_cT sx_d_X11_prank := rfl
set_option maxRecDepth 100000 in
theorem sx_y_X11_prank : sx_yOk 47 sx_t_X11_prank := sx_yok0 (by decide +kernel) sx_q_X11_prank (by decide +kernel)
def sx_d_X11_put : List (List (Nat × sx_I)) := [[(0, (.bipush 24, 2, [24])), (2, (.istore_n 2, 1, [])), (3, (.iload_n 2, 1, [])), (4, (.ifCond .lt 52, 3, [56])), (7, (.aload_n 0, 1, [])), (8, (.getfield 13, 3, [11, 1, 0, 670])), (11, (.ifCond .lt 39, 3, [50])), (14, (.aload_n 0, 1, [])), (15, (.getfield 13, 3, [11, 1, 0, 670]))], [(2, (.sipush 1600, 3, [1600])), (5, (.if_icmp .ge 29, 3, [50])), (8, (.aload_n 0, 1, [])), (9, (.getfield 9, 3, [11, 0, 0, 669])), (12, (.aload_n 0, 1, [])), (13, (.getfield 13, 3, [11, 1, 0, 670]))], [(0, (.iload_n 1, 1, [])), (1, (.iload_n 2, 1, [])), (2, (.iushr, 1, [])), (3, (.sipush 255, 3, [255])), (6, (.iand, 1, [])), (7, (.iastore, 1, [])), (8, (.aload_n 0, 1, [])), (9, (.dup, 1, [])), (10, (.getfield 13, 3, [11, 1, 0, 670])), (13, (.iconst 1, 1, [1])), (14, (.iadd, 1, [])), (15, (.putfield 13, 3, [11, 1, 0, 0, 0, 670]))], [(2, (.iinc 2 (-8), 3, [4294967288])), (5, (.goto (-50), 3, [3])), (8, (.return_, 1, []))]]
set_option maxRecDepth 100000 in
theorem sx_q_X11_put : sx_t_X11_put = sx_cT sx_d_X11_put := rfl
set_option maxRecDepth 100000 in
theorem sx_y_X11_put : sx_yOk 48 sx_t_X11_put := sx_yok0 (by decide +kernel) sx_q_X11_put (by decide +kernel)
def sx_d_X11_record : List (List (Nat × sx_I)) := [[(0, (.aload_n 0, 1, [])), (1, (.getfield 20, 3, [11, 2, 0, 671])), (4, (.iload_n 1, 1, [])), (5, (.invokevirtual 137, 3, [2, 11, 2, 0, 912])), (8, (.ifCond .ne 6, 3, [14])), (11, (.ldc 186, 2, [3294967296, 1005])), (13, (.ireturn, 1, []))]]
set_option maxRecDepth 100000 in
theorem sx_q_X11_record : sx_t_X11_record = sx_cT sx_d_X11_record := rfl
set_option maxRecDepth 100000 in
theorem sx_y_X11_record : sx_yOk 49 sx_t_X11_record := sx_yok0 (by decide +kernel) sx_q_X11_record (by decide +kernel)
def sx_d_X11_redo : List (List (Nat × sx_I)) := [[(0, (.aload_n 0, 1, [])), (1, (.getfield 43, 3, [11, 5, 0, 674])), (4, (.aload_n 0, 1, [])), (5, (.getfield 36, 3, [11, 4, 0, 673])), (8, (.invokevirtual 232, 3, [2, 134, 2, 0, 1085])), (11, (.ireturn, 1, [1]))]]
set_option maxRecDepth 100000 in
theorem sx_q_X11_redo : sx_t_X11_redo = sx_cT sx_d_X11_redo := rfl
set_option maxRecDepth 100000 in
theorem sx_y_X11_redo : sx_yOk 50 sx_t_X11_redo := sx_yok0 (by decide +kernel) sx_q_X11_redo (by decide +kernel)
def sx_d_X11_register : List (List (Nat × sx_I)) := [[(0, (.aload_n 0, 1, [])), (1, (.getfield 29, 3, [11, 3, 0, 672])), (4, (.aload_n 0, 1, [])), (5, (.getfield 13, 3, [11, 1, 0, 670])), (8, (.invokevirtual 108, 3, [2, 144, 2, 0, 725])), (11, (.ifCond .ne 5, 3, [16]))], [(0, (.aload_n 0, 1, [])), (1, (.getfield 20, 3, [11, 2, 0, 671])), (4, (.aload_n 0, 1, [])), (5, (.getfield 29, 3, [11, 3, 0, 672])), (8, (.getfield 112, 3, [4, 0, 1, 325])), (11, (.invokevirtual 115, 3, [2, 8, 2, 0, 886])), (14, (.aload_n 0, 1, [])), (15, (.iconst 0, 1, [0]))], [(0, (.putfield 13, 3, [11, 1, 0, 0, 0, 670])), (3, (.aload_n 0, 1, [])), (4, (.getfield 36, 3, [11, 4, 0, 673])), (7, (.aload_n 0, 1, [])), (8, (.getfield 20, 3, [11, 2, 0, 671])), (11, (.invokevirtual 98, 3, [2, 155, 2, 0, 647])), (14, (.aload_n 0, 1, [])), (15, (.getfield 43, 3, [11, 5, 0, 674]))], [(2, (.aload_n 0, 1, [])), (3, (.getfield 36, 3, [11, 4, 0, 673])), (6, (.invokevirtual 101, 3, [2, 132, 2, 0, 656])), (9, (.aload_n 0, 1, [])), (10, (.getfield 43, 3, [11, 5, 0, 674])), (13, (.invokevirtual 118, 3, [2, 127, 1, 0, 891]))], [(0, (.aload_n 0, 1, [])), (1, (.getfield 70, 3, [11, 8, 0, 677])), (4, (.getfield 121, 3, [1, 7, 1, 522])), (7, (.invokevirtual 124, 3, [2, 146, 1, 0, 895])), (10, (.aload_n 0, 1, [])), (11, (.getfield 94, 3, [11, 12, 0, 681])), (14, (.invokevirtual 127, 3, [2, 148, 1, 0, 899]))], [(1, (.aload_n 0, 1, [])), (2, (.getfield 52, 3, [11, 6, 0, 675])), (5, (.invokevirtual 124, 3, [2, 146, 1, 0, 895])), (8, (.aload_n 0, 1, [])), (9, (.getfield 20, 3, [11, 2, 0, 671])), (12, (.getfield 128, 3, [10, 0, 1, 212])), (15, (.ireturn, 1, []))]]
set_option maxRecDepth 100000 in
theorem sx_q_X11_register : sx_t_X11_register = sx_cT sx_d_X11_register := rfl
set_option maxRecDepth 100000 in
theorem sx_y_X11_register : sx_yOk 51 sx_t_X11_register := sx_yok0 (by decide +kernel) sx_q_X11_register (by decide +kernel)
def sx_d_X11_shown : List (List (Nat × sx_I)) := [[(0, (.iload_n 2, 1, [])), (1, (.ifCond .lt 9, 3, [10])), (4, (.iload_n 2, 1, [])), (5, (.bipush 9, 2, [9])), (7, (.if_icmp .le 5, 3, [12])), (10, (.iconst (-1), 1, [4294967295])), (11, (.ireturn, 1, [])), (12, (.aload_n 0, 1, [])), (13, (.getfield 94, 3, [11, 12, 0, 681]))], [(0, (.iload_n 1, 1, [])), (1, (.iconst (-1), 1, [4294967295])), (2, (.iload_n 2, 1, [])), (3, (.invokevirtual 334, 3, [2, 154, 4, 0, 1691])), (6, (.ireturn, 1, []))]]
set_option maxRecDepth 100000 in
theorem sx_q_X11_shown : sx_t_X11_shown = sx_cT sx_d_X11_shown := rfl
set_option maxRecDepth 100000 in
theorem sx_y_X11_shown : sx_yOk 52 sx_t_X11_shown := sx_yok0 (by decide +kernel) sx_q_X11_shown (by decide +kernel)
def sx_d_X11_sight : List (List (Nat × sx_I)) := [[(0, (.aload_n 0, 1, [])), (1, (.getfield 20, 3, [11, 2, 0, 671])), (4, (.iload_n 2, 1, [])), (5, (.invokevirtual 137, 3, [2, 11, 2, 0, 912])), (8, (.ifCond .eq 16, 3, [24]))], [(8, (.iconst (-1), 1, [4294967295])), (9, (.ireturn, 1, []))]]
set_option maxRecDepth 100000 in
theorem sx_q_X11_sight : sx_t_X11_sight = sx_cT sx_d_X11_sight := rfl
set_option maxRecDepth 100000 in
theorem sx_y_X11_sight : sx_yOk 53 sx_t_X11_sight := sx_yok0 (by decide +kernel) sx_q_X11_sight (by decide +kernel)
def sx_d_X11_stolen : List (List (Nat × sx_I)) := [[(0, (.iload_n 1, 1, [])), (1, (.ifCond .lt 9, 3, [10])), (4, (.iload_n 1, 1, [])), (5, (.bipush 99, 2, [99])), (7, (.if_icmp .le 5, 3, [12])), (10, (.iconst (-1), 1, [4294967295])), (11, (.ireturn, 1, [])), (12, (.aload_n 0, 1, [])), (13, (.getfield 61, 3, [11, 7, 0, 676]))], [(0, (.iload_n 1, 1, [])), (1, (.invokevirtual 328, 3, [2, 2, 2, 0, 1676])), (4, (.ireturn, 1, []))]]
set_option maxRecDepth 100000 in
theorem sx_q_X11_stolen : sx_t_X11_stolen = sx_cT sx_d_X11_stolen := rfl
set_option maxRecDepth 100000 in
theorem sx_y_X11_stolen : sx_yOk 54 sx_t_X11_stolen := sx_yok0 (by decide +kernel) sx_q_X11_stolen (by decide +kernel)
def sx_d_X11_stranger : List (List (Nat × sx_I)) := [[(0, (.iload_n 1, 1, [])), (1, (.ifCond .lt 8, 3, [9])), (4, (.iload_n 1, 1, [])), (5, (.iconst 1, 1, [1])), (6, (.if_icmp .le 5, 3, [11])), (9, (.iconst (-1), 1, [4294967295])), (10, (.ireturn, 1, [])), (11, (.aload_n 0, 1, [])), (12, (.getfield 94, 3, [11, 12, 0, 681])), (15, (.iload_n 2, 1, []))], [(0, (.invokevirtual 363, 3, [2, 151, 2, 0, 1752])), (3, (.istore_n 3, 1, [])), (4, (.iload_n 1, 1, [])), (5, (.iconst 1, 1, [1])), (6, (.if_icmp .eq 8, 3, [30])), (9, (.iload_n 3, 1, [])), (10, (.iconst (-1), 1, [4294967295])), (11, (.if_icmp .ne 7, 3, [34])), (14, (.iload_n 3, 1, [])), (15, (.goto 11, 3, [42]))], [(2, (.aload_n 0, 1, [])), (3, (.getfield 94, 3, [11, 12, 0, 681])), (6, (.iload_n 2, 1, [])), (7, (.invokevirtual 366, 3, [2, 152, 2, 0, 1760])), (10, (.ireturn, 1, []))]]
set_option maxRecDepth 100000 in
theorem sx_q_X11_stranger : sx_t_X11_stranger = sx_cT sx_d_X11_stranger := rfl
set_option maxRecDepth 100000 in
theorem sx_y_X11_stranger : sx_yOk 55 sx_t_X11_stranger := sx_yok0 (by decide +kernel) sx_q_X11_stranger (by decide +kernel)
def sx_d_X11_together : List (List (Nat × sx_I)) := [[(0, (.aload_n 0, 1, [])), (1, (.getfield 52, 3, [11, 6, 0, 675])), (4, (.invokevirtual 124, 3, [2, 146, 1, 0, 895])), (7, (.aload_n 0, 1, [])), (8, (.getfield 20, 3, [11, 2, 0, 671])), (11, (.iload_n 1, 1, [])), (12, (.invokevirtual 160, 3, [2, 12, 2, 0, 933])), (15, (.ifCond .eq 10, 3, [25]))], [(9, (.ldc 186, 2, [3294967296, 1005])), (11, (.ireturn, 1, []))]]
set_option maxRecDepth 100000 in
theorem sx_q_X11_together : sx_t_X11_together = sx_cT sx_d_X11_together := rfl
set_option maxRecDepth 100000 in
theorem sx_y_X11_together : sx_yOk 56 sx_t_X11_together := sx_yok0 (by decide +kernel) sx_q_X11_together (by decide +kernel)
def sx_d_X11_undo : List (List (Nat × sx_I)) := [[(0, (.aload_n 0, 1, [])), (1, (.getfield 43, 3, [11, 5, 0, 674])), (4, (.aload_n 0, 1, [])), (5, (.getfield 36, 3, [11, 4, 0, 673])), (8, (.invokevirtual 228, 3, [2, 133, 2, 0, 1073])), (11, (.ireturn, 1, [1]))]]
set_option maxRecDepth 100000 in
theorem sx_q_X11_undo : sx_t_X11_undo = sx_cT sx_d_X11_undo := rfl
set_option maxRecDepth 100000 in
theorem sx_y_X11_undo : sx_yOk 57 sx_t_X11_undo := sx_yok0 (by decide +kernel) sx_q_X11_undo (by decide +kernel)
def sx_d_X11_untell : List (List (Nat × sx_I)) := [[(0, (.aload_n 0, 1, [])), (1, (.getfield 94, 3, [11, 12, 0, 681])), (4, (.iload_n 1, 1, [])), (5, (.invokevirtual 338, 3, [2, 153, 2, 0, 1703])), (8, (.ireturn, 1, [1]))]]
set_option maxRecDepth 100000 in
theorem sx_q_X11_untell : sx_t_X11_untell = sx_cT sx_d_X11_untell := rfl
set_option maxRecDepth 100000 in
theorem sx_y_X11_untell : sx_yOk 58 sx_t_X11_untell := sx_yok0 (by decide +kernel) sx_q_X11_untell (by decide +kernel)
def sx_d_X11_who : List (List (Nat × sx_I)) := [[(0, (.aload_n 0, 1, [])), (1, (.getfield 20, 3, [11, 2, 0, 671])), (4, (.iload_n 1, 1, [])), (5, (.invokevirtual 160, 3, [2, 12, 2, 0, 933])), (8, (.ifCond .eq 13, 3, [21]))], [(5, (.iconst (-1), 1, [4294967295])), (6, (.ireturn, 1, []))]]
set_option maxRecDepth 100000 in
theorem sx_q_X11_who : sx_t_X11_who = sx_cT sx_d_X11_who := rfl
set_option maxRecDepth 100000 in
theorem sx_y_X11_who : sx_yOk 59 sx_t_X11_who := sx_yok0 (by decide +kernel) sx_q_X11_who (by decide +kernel)
def sx_d_X12_about : List (List (Nat × sx_I)) := [[(0, (.iload_n 1, 1, [])), (1, (.tableswitch 170 0 13 #[71, 81, 91, 101, 108, 115, 120, 125, 130, 135, 140, 145, 155, 160], 71, [171, 2147483648, 72, 82, 92, 102, 109, 116, 121, 126, 131, 136, 141, 146, 156, 161]))], [], [], [], [(8, (.aload_n 0, 1, [])), (9, (.getfield 20, 3, [12, 11, 0, 1816])), (12, (.aload_n 0, 1, [])), (13, (.getfield 277, 3, [12, 39, 0, 1844]))], [(0, (.iaload, 1, [])), (1, (.ireturn, 1, [])), (2, (.aload_n 0, 1, [])), (3, (.getfield 27, 3, [12, 13, 0, 1818])), (6, (.aload_n 0, 1, [])), (7, (.getfield 277, 3, [12, 39, 0, 1844])), (10, (.iaload, 1, [])), (11, (.ireturn, 1, [])), (12, (.aload_n 0, 1, [])), (13, (.getfield 30, 3, [12, 14, 0, 1819]))], [(0, (.aload_n 0, 1, [])), (1, (.getfield 277, 3, [12, 39, 0, 1844])), (4, (.iaload, 1, [])), (5, (.ireturn, 1, [])), (6, (.aload_n 0, 1, [])), (7, (.getfield 107, 3, [12, 49, 0, 1854])), (10, (.iconst 0, 1, [0])), (11, (.iaload, 1, [])), (12, (.ireturn, 1, [])), (13, (.aload_n 0, 1, [])), (14, (.getfield 107, 3, [12, 49, 0, 1854]))], [(1, (.iconst 1, 1, [1])), (2, (.iaload, 1, [])), (3, (.ireturn, 1, [])), (4, (.aload_n 0, 1, [])), (5, (.getfield 386, 3, [12, 51, 0, 1856])), (8, (.ireturn, 1, [])), (9, (.aload_n 0, 1, [])), (10, (.getfield 389, 3, [12, 52, 0, 1857])), (13, (.ireturn, 1, [])), (14, (.aload_n 0, 1, [])), (15, (.getfield 392, 3, [12, 58, 0, 1863]))], [(2, (.ireturn, 1, [])), (3, (.aload_n 0, 1, [])), (4, (.getfield 395, 3, [12, 71, 0, 1876])), (7, (.ireturn, 1, [])), (8, (.aload_n 0, 1, [])), (9, (.getfield 550, 3, [12, 72, 0, 1877])), (12, (.ireturn, 1, [])), (13, (.aload_n 0, 1, [])), (14, (.getfield 274, 3, [12, 2, 0, 1807]))], [(1, (.ireturn, 1, [])), (2, (.aload_n 0, 1, [])), (3, (.getfield 33, 3, [12, 15, 0, 1820])), (6, (.aload_n 0, 1, [])), (7, (.getfield 277, 3, [12, 39, 0, 1844])), (10, (.iaload, 1, [])), (11, (.ireturn, 1, [])), (12, (.aload_n 0, 1, [])), (13, (.getfield 398, 3, [12, 56, 0, 1861]))], [(0, (.ireturn, 1, [])), (1, (.aload_n 0, 1, [])), (2, (.getfield 24, 3, [12, 12, 0, 1817])), (5, (.aload_n 0, 1, [])), (6, (.getfield 277, 3, [12, 39, 0, 1844])), (9, (.iaload, 1, [])), (10, (.ireturn, 1, [])), (11, (.iconst (-1), 1, [4294967295])), (12, (.ireturn, 1, []))]]
set_option maxRecDepth 100000 in
theorem sx_q_X12_about : sx_t_X12_about = sx_cT sx_d_X12_about := rfl
set_option maxRecDepth 100000 in
theorem sx_y_X12_about : sx_yOk 60 sx_t_X12_about := sx_yok0 (by decide +kernel) sx_q_X12_about (by decide +kernel)
def sx_d_X12_add : List (List (Nat × sx_I)) := [[(0, (.aload_n 0, 1, [])), (1, (.getfield 137, 3, [12, 65, 0, 1870])), (4, (.aload_n 0, 1, [])), (5, (.getfield 395, 3, [12, 71, 0, 1876])), (8, (.iload_n 1, 1, [])), (9, (.iastore, 1, [])), (10, (.aload_n 0, 1, [])), (11, (.getfield 140, 3, [12, 66, 0, 1871])), (14, (.aload_n 0, 1, [])), (15, (.getfield 395, 3, [12, 71, 0, 1876]))], [(2, (.iload_n 2, 1, [])), (3, (.iastore, 1, [])), (4, (.aload_n 0, 1, [])), (5, (.getfield 143, 3, [12, 67, 0, 1872])), (8, (.aload_n 0, 1, [])), (9, (.getfield 395, 3, [12, 71, 0, 1876])), (12, (.iload_n 3, 1, [])), (13, (.iastore, 1, [])), (14, (.aload_n 0, 1, [])), (15, (.getfield 146, 3, [12, 68, 0, 1873]))], [(2, (.aload_n 0, 1, [])), (3, (.getfield 395, 3, [12, 71, 0, 1876])), (6, (.aload_n 0, 1, [])), (7, (.getfield 550, 3, [12, 72, 0, 1877])), (10, (.iastore, 1, [])), (11, (.aload_n 0, 1, [])), (12, (.getfield 149, 3, [12, 69, 0, 1874])), (15, (.aload_n 0, 1, []))], [(0, (.getfield 395, 3, [12, 71, 0, 1876])), (3, (.iconst (-1), 1, [4294967295])), (4, (.iastore, 1, [])), (5, (.aload_n 0, 1, [])), (6, (.dup, 1, [])), (7, (.getfield 395, 3, [12, 71, 0, 1876])), (10, (.iconst 1, 1, [1])), (11, (.iadd, 1, [])), (12, (.putfield 395, 3, [12, 71, 0, 0, 0, 1876])), (15, (.aload_n 0, 1, []))], [(0, (.getfield 395, 3, [12, 71, 0, 1876])), (3, (.iconst 1, 1, [1])), (4, (.isub, 1, [])), (5, (.ireturn, 1, []))]]
set_option maxRecDepth 100000 in
theorem sx_q_X12_add : sx_t_X12_add = sx_cT sx_d_X12_add := rfl
set_option maxRecDepth 100000 in
theorem sx_y_X12_add : sx_yOk 61 sx_t_X12_add := sx_yok0 (by decide +kernel) sx_q_X12_add (by decide +kernel)
