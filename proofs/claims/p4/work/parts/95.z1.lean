/-! ===== alone of the reference ===== -/
def kd_W154 : kd_W := [(273, 275, 0, 0), (272, 272, 0, 9), (279, 279, 0, 9), (288, 288, 0, 9), (273, 275, 1, 1), (273, 275, 2, 2), (273, 275, 3, 3), (273, 275, 4, 4), (273, 275, 5, 5), (273, 275, 6, 6), (273, 275, 7, 7), (273, 275, 8, 8), (273, 275, 9, 9), (259, 259, 35, 35)]
def kd_P154 : List kd_P := [(some (0, 0, 4294967295), [], kd_W154)]
def kd_T154 : kd_Tc := ([(3, 259, 259), (0, 0, 4294967295), (0, 0, 4294967295), (0, 0, 4294967295)], [], kd_P154)
def kd_C154 : List (Nat × kd_Tc) := [(105, kd_T105), (237, kd_T237k6), (237, kd_T237k2)]
def kd_S154_0 : kd_St := (44, [(2147483649, 2147483651), (2147483648, 4294967294), (2147483647, 4294967295), (2147483648, 2147484647), (2147483648, 2147483650)], 5, [(3, 259, 259), (1, 0, 2147483648), (1, 1, 2147483648), (1, 2, 2147483648), (0, 2147483648, 2147483648), (1, 3, 2147483648), (9, 0, 0), (9, 0, 0)], [(260, 1, (1, 4, 2147483648))], [(273, 275, 0, 0), (272, 272, 0, 9), (273, 275, 1, 1), (273, 275, 2, 2), (273, 275, 3, 3), (273, 275, 4, 4), (273, 275, 5, 5), (273, 275, 6, 6), (273, 275, 7, 7), (273, 275, 8, 8), (273, 275, 9, 9)], [(0, (0, 45, 45)), (0, (1, 3, 2147483648))])
def kd_S154_1 : kd_St := (44, [(2147483649, 2147483658), (2147483649, 2147483651), (2147483649, 4294967294), (2147483647, 4294967295), (2147483648, 2147484647), (2147483648, 2147483650)], 6, [(3, 259, 259), (1, 0, 2147483648), (1, 1, 2147483648), (1, 2, 2147483648), (0, 2147483649, 2147483649), (1, 3, 2147483648), (9, 0, 0), (9, 0, 0)], [(260, 1, (1, 4, 2147483648)), (260, 2, (1, 5, 2147483648))], [(273, 275, 0, 0), (288, 288, 0, 0), (272, 272, 0, 9), (273, 275, 1, 1), (273, 275, 2, 2), (273, 275, 3, 3), (273, 275, 4, 4), (273, 275, 5, 5), (273, 275, 6, 6), (273, 275, 7, 7), (273, 275, 8, 8), (273, 275, 9, 9)], [(0, (0, 45, 45)), (0, (1, 3, 2147483648))])
def kd_S154_2 : kd_St := (44, [(2147483650, 2147483658), (2147483649, 2147483651), (2147483650, 4294967294), (2147483647, 4294967295), (2147483648, 2147484647), (2147483648, 2147483650)], 6, [(3, 259, 259), (1, 0, 2147483648), (1, 1, 2147483648), (1, 2, 2147483648), (0, 2147483650, 2147483650), (1, 3, 2147483648), (9, 0, 0), (9, 0, 0)], [(260, 1, (1, 4, 2147483648)), (260, 2, (1, 5, 2147483648))], [(273, 275, 0, 0), (288, 288, 0, 1), (272, 272, 0, 9), (273, 275, 1, 1), (273, 275, 2, 2), (273, 275, 3, 3), (273, 275, 4, 4), (273, 275, 5, 5), (273, 275, 6, 6), (273, 275, 7, 7), (273, 275, 8, 8), (273, 275, 9, 9)], [(0, (0, 45, 45)), (0, (1, 3, 2147483648))])
def kd_S154_3 : kd_St := (44, [(2147483651, 2147483658), (2147483649, 2147483651), (2147483651, 4294967294), (2147483647, 4294967295), (2147483648, 2147484647), (2147483648, 2147483650)], 6, [(3, 259, 259), (1, 0, 2147483648), (1, 1, 2147483648), (1, 2, 2147483648), (0, 2147483651, 2147483651), (1, 3, 2147483648), (9, 0, 0), (9, 0, 0)], [(260, 1, (1, 4, 2147483648)), (260, 2, (1, 5, 2147483648))], [(273, 275, 0, 0), (288, 288, 0, 2), (272, 272, 0, 9), (273, 275, 1, 1), (273, 275, 2, 2), (273, 275, 3, 3), (273, 275, 4, 4), (273, 275, 5, 5), (273, 275, 6, 6), (273, 275, 7, 7), (273, 275, 8, 8), (273, 275, 9, 9)], [(0, (0, 45, 45)), (0, (1, 3, 2147483648))])
def kd_S154_4 : kd_St := (44, [(2147483652, 2147483658), (2147483649, 2147483651), (2147483652, 4294967294), (2147483647, 4294967295), (2147483648, 2147484647), (2147483648, 2147483650)], 6, [(3, 259, 259), (1, 0, 2147483648), (1, 1, 2147483648), (1, 2, 2147483648), (0, 2147483652, 2147483652), (1, 3, 2147483648), (9, 0, 0), (9, 0, 0)], [(260, 1, (1, 4, 2147483648)), (260, 2, (1, 5, 2147483648))], [(273, 275, 0, 0), (288, 288, 0, 3), (272, 272, 0, 9), (273, 275, 1, 1), (273, 275, 2, 2), (273, 275, 3, 3), (273, 275, 4, 4), (273, 275, 5, 5), (273, 275, 6, 6), (273, 275, 7, 7), (273, 275, 8, 8), (273, 275, 9, 9)], [(0, (0, 45, 45)), (0, (1, 3, 2147483648))])
def kd_S154_5 : kd_St := (44, [(2147483653, 2147483658), (2147483649, 2147483651), (2147483653, 4294967294), (2147483647, 4294967295), (2147483648, 2147484647), (2147483648, 2147483650)], 6, [(3, 259, 259), (1, 0, 2147483648), (1, 1, 2147483648), (1, 2, 2147483648), (0, 2147483653, 2147483653), (1, 3, 2147483648), (9, 0, 0), (9, 0, 0)], [(260, 1, (1, 4, 2147483648)), (260, 2, (1, 5, 2147483648))], [(273, 275, 0, 0), (288, 288, 0, 4), (272, 272, 0, 9), (273, 275, 1, 1), (273, 275, 2, 2), (273, 275, 3, 3), (273, 275, 4, 4), (273, 275, 5, 5), (273, 275, 6, 6), (273, 275, 7, 7), (273, 275, 8, 8), (273, 275, 9, 9)], [(0, (0, 45, 45)), (0, (1, 3, 2147483648))])
def kd_S154_6 : kd_St := (44, [(2147483654, 2147483658), (2147483649, 2147483651), (2147483654, 4294967294), (2147483647, 4294967295), (2147483648, 2147484647), (2147483648, 2147483650)], 6, [(3, 259, 259), (1, 0, 2147483648), (1, 1, 2147483648), (1, 2, 2147483648), (0, 2147483654, 2147483654), (1, 3, 2147483648), (9, 0, 0), (9, 0, 0)], [(260, 1, (1, 4, 2147483648)), (260, 2, (1, 5, 2147483648))], [(273, 275, 0, 0), (288, 288, 0, 5), (272, 272, 0, 9), (273, 275, 1, 1), (273, 275, 2, 2), (273, 275, 3, 3), (273, 275, 4, 4), (273, 275, 5, 5), (273, 275, 6, 6), (273, 275, 7, 7), (273, 275, 8, 8), (273, 275, 9, 9)], [(0, (0, 45, 45)), (0, (1, 3, 2147483648))])
def kd_S154_7 : kd_St := (44, [(2147483654, 2147483657), (2147483655, 2147483658), (2147483649, 2147483651), (2147483655, 2147483658), (2147483647, 4294967295), (2147483648, 2147484647), (2147483648, 2147483650)], 7, [(3, 259, 259), (1, 0, 2147483648), (1, 1, 2147483648), (1, 2, 2147483648), (0, 2147483655, 2147483655), (1, 3, 2147483648), (9, 0, 0), (9, 0, 0)], [(260, 1, (1, 4, 2147483648)), (260, 2, (1, 5, 2147483648)), (288, 6, (1, 6, 2147483648))], [(273, 275, 0, 0), (288, 288, 0, 6), (272, 272, 0, 9), (273, 275, 1, 1), (273, 275, 2, 2), (273, 275, 3, 3), (273, 275, 4, 4), (273, 275, 5, 5), (273, 275, 6, 6), (273, 275, 7, 7), (273, 275, 8, 8), (273, 275, 9, 9)], [(0, (0, 45, 45)), (0, (1, 3, 2147483648))])
def kd_S154_8 : kd_St := (44, [(2147483655, 2147483657), (2147483654, 2147483657), (2147483656, 2147483658), (2147483649, 2147483651), (2147483656, 2147483658), (2147483647, 4294967295), (2147483648, 2147484647), (2147483648, 2147483650)], 8, [(3, 259, 259), (1, 0, 2147483648), (1, 1, 2147483648), (1, 2, 2147483648), (0, 2147483656, 2147483656), (1, 3, 2147483648), (9, 0, 0), (9, 0, 0)], [(260, 1, (1, 4, 2147483648)), (260, 2, (1, 5, 2147483648)), (288, 6, (1, 6, 2147483648)), (288, 7, (1, 7, 2147483648))], [(273, 275, 0, 0), (288, 288, 0, 7), (272, 272, 0, 9), (273, 275, 1, 1), (273, 275, 2, 2), (273, 275, 3, 3), (273, 275, 4, 4), (273, 275, 5, 5), (273, 275, 6, 6), (273, 275, 7, 7), (273, 275, 8, 8), (273, 275, 9, 9)], [(0, (0, 45, 45)), (0, (1, 3, 2147483648))])
def kd_S154_9 : kd_St := (44, [(2147483656, 2147483657), (2147483655, 2147483657), (2147483654, 2147483657), (2147483657, 2147483658), (2147483649, 2147483651), (2147483657, 2147483658), (2147483647, 4294967295), (2147483648, 2147484647), (2147483648, 2147483650)], 9, [(3, 259, 259), (1, 0, 2147483648), (1, 1, 2147483648), (1, 2, 2147483648), (0, 2147483657, 2147483657), (1, 3, 2147483648), (9, 0, 0), (9, 0, 0)], [(260, 1, (1, 4, 2147483648)), (260, 2, (1, 5, 2147483648)), (288, 6, (1, 6, 2147483648)), (288, 7, (1, 7, 2147483648)), (288, 8, (1, 8, 2147483648))], [(273, 275, 0, 0), (288, 288, 0, 8), (272, 272, 0, 9), (273, 275, 1, 1), (273, 275, 2, 2), (273, 275, 3, 3), (273, 275, 4, 4), (273, 275, 5, 5), (273, 275, 6, 6), (273, 275, 7, 7), (273, 275, 8, 8), (273, 275, 9, 9)], [(0, (0, 45, 45)), (0, (1, 3, 2147483648))])
def kd_S154_10 : kd_St := (44, [(2147483656, 2147483657), (2147483655, 2147483657), (2147483654, 2147483657), (2147483649, 2147483651), (2147483647, 4294967295), (2147483648, 2147484647), (2147483648, 2147483650)], 7, [(3, 259, 259), (1, 0, 2147483648), (1, 1, 2147483648), (1, 2, 2147483648), (0, 2147483658, 2147483658), (0, 2147483658, 2147483658), (9, 0, 0), (9, 0, 0)], [(260, 1, (1, 3, 2147483648)), (260, 2, (0, 2147483658, 2147483658)), (288, 6, (1, 4, 2147483648)), (288, 7, (1, 5, 2147483648)), (288, 8, (1, 6, 2147483648)), (288, 9, (0, 2147483657, 2147483657))], [(273, 275, 0, 0), (272, 272, 0, 9), (288, 288, 0, 9), (273, 275, 1, 1), (273, 275, 2, 2), (273, 275, 3, 3), (273, 275, 4, 4), (273, 275, 5, 5), (273, 275, 6, 6), (273, 275, 7, 7), (273, 275, 8, 8), (273, 275, 9, 9)], [(0, (0, 45, 45)), (0, (0, 2147483658, 2147483658))])
def kd_S154 : List kd_St := [kd_S154_0, kd_S154_1, kd_S154_2, kd_S154_3, kd_S154_4, kd_S154_5, kd_S154_6, kd_S154_7, kd_S154_8, kd_S154_9, kd_S154_10]
def kd_H154_0 : kd_St := (122, [(2147483649, 2147483651), (2147483647, 4294967295), (2147483648, 2147484647), (2147483648, 2147483650)], 4, [(3, 259, 259), (1, 0, 2147483648), (1, 1, 2147483648), (1, 2, 2147483648), (0, 2147483648, 2147483648), (0, 2147483648, 2147483648), (0, 2147483647, 2147483647), (0, 2147483649, 2147483649)], [(259, 35, (0, 2147483648, 2147483648)), (260, 1, (1, 3, 2147483648))], [(273, 275, 0, 0), (272, 272, 0, 9), (273, 275, 1, 1), (273, 275, 2, 2), (273, 275, 3, 3), (273, 275, 4, 4), (273, 275, 5, 5), (273, 275, 6, 6), (273, 275, 7, 7), (273, 275, 8, 8), (273, 275, 9, 9), (259, 259, 35, 35)], [(0, (0, 0, 0)), (0, (0, 0, 0))])
def kd_H154_1 : kd_St := (122, [(2147483649, 2147483658), (2147483649, 2147483651), (2147483647, 4294967295), (2147483648, 2147484647), (2147483648, 2147483650)], 5, [(3, 259, 259), (1, 0, 2147483648), (1, 1, 2147483648), (1, 2, 2147483648), (0, 2147483649, 2147483649), (0, 2147483648, 2147483648), (0, 2147483647, 2147483647), (0, 2147483649, 2147483649)], [(259, 35, (0, 2147483649, 2147483649)), (260, 1, (1, 3, 2147483648)), (260, 2, (1, 4, 2147483648)), (279, 0, (0, 2147483648, 2147483648))], [(273, 275, 0, 0), (279, 279, 0, 0), (288, 288, 0, 0), (272, 272, 0, 9), (273, 275, 1, 1), (273, 275, 2, 2), (273, 275, 3, 3), (273, 275, 4, 4), (273, 275, 5, 5), (273, 275, 6, 6), (273, 275, 7, 7), (273, 275, 8, 8), (273, 275, 9, 9), (259, 259, 35, 35)], [(0, (0, 0, 0)), (0, (0, 0, 0))])
def kd_H154_2 : kd_St := (122, [(2147483650, 2147483658), (2147483649, 2147483651), (2147483647, 4294967295), (2147483648, 2147484647), (2147483648, 2147483650)], 5, [(3, 259, 259), (1, 0, 2147483648), (1, 1, 2147483648), (1, 2, 2147483648), (0, 2147483650, 2147483650), (0, 2147483648, 2147483648), (0, 2147483647, 2147483647), (0, 2147483649, 2147483649)], [(259, 35, (0, 2147483650, 2147483650)), (260, 1, (1, 3, 2147483648)), (260, 2, (1, 4, 2147483648)), (279, 0, (0, 2147483648, 2147483648)), (279, 1, (0, 2147483649, 2147483649))], [(273, 275, 0, 0), (279, 279, 0, 1), (288, 288, 0, 1), (272, 272, 0, 9), (273, 275, 1, 1), (273, 275, 2, 2), (273, 275, 3, 3), (273, 275, 4, 4), (273, 275, 5, 5), (273, 275, 6, 6), (273, 275, 7, 7), (273, 275, 8, 8), (273, 275, 9, 9), (259, 259, 35, 35)], [(0, (0, 0, 0)), (0, (0, 0, 0))])
def kd_H154_3 : kd_St := (122, [(2147483651, 2147483658), (2147483649, 2147483651), (2147483647, 4294967295), (2147483648, 2147484647), (2147483648, 2147483650)], 5, [(3, 259, 259), (1, 0, 2147483648), (1, 1, 2147483648), (1, 2, 2147483648), (0, 2147483651, 2147483651), (0, 2147483648, 2147483648), (0, 2147483647, 2147483647), (0, 2147483649, 2147483649)], [(259, 35, (0, 2147483651, 2147483651)), (260, 1, (1, 3, 2147483648)), (260, 2, (1, 4, 2147483648)), (279, 0, (0, 2147483648, 2147483648)), (279, 1, (0, 2147483649, 2147483649)), (279, 2, (0, 2147483650, 2147483650))], [(273, 275, 0, 0), (279, 279, 0, 2), (288, 288, 0, 2), (272, 272, 0, 9), (273, 275, 1, 1), (273, 275, 2, 2), (273, 275, 3, 3), (273, 275, 4, 4), (273, 275, 5, 5), (273, 275, 6, 6), (273, 275, 7, 7), (273, 275, 8, 8), (273, 275, 9, 9), (259, 259, 35, 35)], [(0, (0, 0, 0)), (0, (0, 0, 0))])
def kd_H154_4 : kd_St := (122, [(2147483652, 2147483658), (2147483649, 2147483651), (2147483647, 4294967295), (2147483648, 2147484647), (2147483648, 2147483650)], 5, [(3, 259, 259), (1, 0, 2147483648), (1, 1, 2147483648), (1, 2, 2147483648), (0, 2147483652, 2147483652), (0, 2147483648, 2147483648), (0, 2147483647, 2147483647), (0, 2147483649, 2147483649)], [(259, 35, (0, 2147483652, 2147483652)), (260, 1, (1, 3, 2147483648)), (260, 2, (1, 4, 2147483648)), (279, 0, (0, 2147483648, 2147483648)), (279, 1, (0, 2147483649, 2147483649)), (279, 2, (0, 2147483650, 2147483650)), (279, 3, (0, 2147483651, 2147483651))], [(273, 275, 0, 0), (279, 279, 0, 3), (288, 288, 0, 3), (272, 272, 0, 9), (273, 275, 1, 1), (273, 275, 2, 2), (273, 275, 3, 3), (273, 275, 4, 4), (273, 275, 5, 5), (273, 275, 6, 6), (273, 275, 7, 7), (273, 275, 8, 8), (273, 275, 9, 9), (259, 259, 35, 35)], [(0, (0, 0, 0)), (0, (0, 0, 0))])
def kd_H154_5 : kd_St := (122, [(2147483653, 2147483658), (2147483649, 2147483651), (2147483647, 4294967295), (2147483648, 2147484647), (2147483648, 2147483650)], 5, [(3, 259, 259), (1, 0, 2147483648), (1, 1, 2147483648), (1, 2, 2147483648), (0, 2147483653, 2147483653), (0, 2147483648, 2147483648), (0, 2147483647, 2147483647), (0, 2147483649, 2147483649)], [(259, 35, (0, 2147483653, 2147483653)), (260, 1, (1, 3, 2147483648)), (260, 2, (1, 4, 2147483648)), (279, 0, (0, 2147483648, 2147483648)), (279, 1, (0, 2147483649, 2147483649)), (279, 2, (0, 2147483650, 2147483650)), (279, 3, (0, 2147483651, 2147483651)), (279, 4, (0, 2147483652, 2147483652))], [(273, 275, 0, 0), (279, 279, 0, 4), (288, 288, 0, 4), (272, 272, 0, 9), (273, 275, 1, 1), (273, 275, 2, 2), (273, 275, 3, 3), (273, 275, 4, 4), (273, 275, 5, 5), (273, 275, 6, 6), (273, 275, 7, 7), (273, 275, 8, 8), (273, 275, 9, 9), (259, 259, 35, 35)], [(0, (0, 0, 0)), (0, (0, 0, 0))])
def kd_H154_6 : kd_St := (122, [(2147483654, 2147483658), (2147483649, 2147483651), (2147483647, 4294967295), (2147483648, 2147484647), (2147483648, 2147483650)], 5, [(3, 259, 259), (1, 0, 2147483648), (1, 1, 2147483648), (1, 2, 2147483648), (0, 2147483654, 2147483654), (0, 2147483648, 2147483648), (0, 2147483647, 2147483647), (0, 2147483649, 2147483649)], [(259, 35, (0, 2147483654, 2147483654)), (260, 1, (1, 3, 2147483648)), (260, 2, (1, 4, 2147483648)), (279, 0, (0, 2147483648, 2147483648)), (279, 1, (0, 2147483649, 2147483649)), (279, 2, (0, 2147483650, 2147483650)), (279, 3, (0, 2147483651, 2147483651)), (279, 4, (0, 2147483652, 2147483652)), (279, 5, (0, 2147483653, 2147483653))], [(273, 275, 0, 0), (279, 279, 0, 5), (288, 288, 0, 5), (272, 272, 0, 9), (273, 275, 1, 1), (273, 275, 2, 2), (273, 275, 3, 3), (273, 275, 4, 4), (273, 275, 5, 5), (273, 275, 6, 6), (273, 275, 7, 7), (273, 275, 8, 8), (273, 275, 9, 9), (259, 259, 35, 35)], [(0, (0, 0, 0)), (0, (0, 0, 0))])
def kd_H154_7 : kd_St := (122, [(2147483654, 2147483657), (2147483655, 2147483658), (2147483649, 2147483651), (2147483647, 4294967295), (2147483648, 2147484647), (2147483648, 2147483650)], 6, [(3, 259, 259), (1, 0, 2147483648), (1, 1, 2147483648), (1, 2, 2147483648), (0, 2147483655, 2147483655), (0, 2147483648, 2147483648), (0, 2147483647, 2147483647), (0, 2147483648, 2147483648)], [(259, 35, (0, 2147483655, 2147483655)), (260, 1, (1, 3, 2147483648)), (260, 2, (1, 4, 2147483648)), (279, 0, (0, 2147483648, 2147483648)), (279, 1, (0, 2147483649, 2147483649)), (279, 2, (0, 2147483650, 2147483650)), (279, 3, (0, 2147483651, 2147483651)), (279, 4, (0, 2147483652, 2147483652)), (279, 5, (0, 2147483653, 2147483653)), (279, 6, (0, 2147483654, 2147483654)), (288, 6, (1, 5, 2147483648))], [(273, 275, 0, 0), (279, 279, 0, 6), (288, 288, 0, 6), (272, 272, 0, 9), (273, 275, 1, 1), (273, 275, 2, 2), (273, 275, 3, 3), (273, 275, 4, 4), (273, 275, 5, 5), (273, 275, 6, 6), (273, 275, 7, 7), (273, 275, 8, 8), (273, 275, 9, 9), (259, 259, 35, 35)], [(0, (0, 0, 0)), (0, (0, 0, 0))])
def kd_H154_8 : kd_St := (122, [(2147483655, 2147483657), (2147483654, 2147483657), (2147483656, 2147483658), (2147483649, 2147483651), (2147483647, 4294967295), (2147483648, 2147484647), (2147483648, 2147483650)], 7, [(3, 259, 259), (1, 0, 2147483648), (1, 1, 2147483648), (1, 2, 2147483648), (0, 2147483656, 2147483656), (0, 2147483648, 2147483648), (0, 2147483647, 2147483647), (0, 2147483648, 2147483648)], [(259, 35, (0, 2147483656, 2147483656)), (260, 1, (1, 3, 2147483648)), (260, 2, (1, 4, 2147483648)), (279, 0, (0, 2147483648, 2147483648)), (279, 1, (0, 2147483649, 2147483649)), (279, 2, (0, 2147483650, 2147483650)), (279, 3, (0, 2147483651, 2147483651)), (279, 4, (0, 2147483652, 2147483652)), (279, 5, (0, 2147483653, 2147483653)), (279, 6, (0, 2147483654, 2147483654)), (279, 7, (0, 2147483655, 2147483655)), (288, 6, (1, 5, 2147483648)), (288, 7, (1, 6, 2147483648))], [(273, 275, 0, 0), (279, 279, 0, 7), (288, 288, 0, 7), (272, 272, 0, 9), (273, 275, 1, 1), (273, 275, 2, 2), (273, 275, 3, 3), (273, 275, 4, 4), (273, 275, 5, 5), (273, 275, 6, 6), (273, 275, 7, 7), (273, 275, 8, 8), (273, 275, 9, 9), (259, 259, 35, 35)], [(0, (0, 0, 0)), (0, (0, 0, 0))])
def kd_H154_9 : kd_St := (122, [(2147483656, 2147483657), (2147483655, 2147483657), (2147483654, 2147483657), (2147483657, 2147483658), (2147483649, 2147483651), (2147483647, 4294967295), (2147483648, 2147484647), (2147483648, 2147483650)], 8, [(3, 259, 259), (1, 0, 2147483648), (1, 1, 2147483648), (1, 2, 2147483648), (0, 2147483657, 2147483657), (0, 2147483648, 2147483648), (0, 2147483647, 2147483647), (0, 2147483648, 2147483648)], [(259, 35, (0, 2147483657, 2147483657)), (260, 1, (1, 3, 2147483648)), (260, 2, (1, 4, 2147483648)), (279, 0, (0, 2147483648, 2147483648)), (279, 1, (0, 2147483649, 2147483649)), (279, 2, (0, 2147483650, 2147483650)), (279, 3, (0, 2147483651, 2147483651)), (279, 4, (0, 2147483652, 2147483652)), (279, 5, (0, 2147483653, 2147483653)), (279, 6, (0, 2147483654, 2147483654)), (279, 7, (0, 2147483655, 2147483655)), (279, 8, (0, 2147483656, 2147483656)), (288, 6, (1, 5, 2147483648)), (288, 7, (1, 6, 2147483648)), (288, 8, (1, 7, 2147483648))], [(273, 275, 0, 0), (279, 279, 0, 8), (288, 288, 0, 8), (272, 272, 0, 9), (273, 275, 1, 1), (273, 275, 2, 2), (273, 275, 3, 3), (273, 275, 4, 4), (273, 275, 5, 5), (273, 275, 6, 6), (273, 275, 7, 7), (273, 275, 8, 8), (273, 275, 9, 9), (259, 259, 35, 35)], [(0, (0, 0, 0)), (0, (0, 0, 0))])
def kd_H154_10 : kd_St := (122, [(2147483656, 2147483657), (2147483655, 2147483657), (2147483654, 2147483657), (2147483649, 2147483651), (2147483647, 4294967295), (2147483648, 2147484647), (2147483648, 2147483650)], 7, [(3, 259, 259), (1, 0, 2147483648), (1, 1, 2147483648), (1, 2, 2147483648), (0, 2147483658, 2147483658), (0, 2147483648, 2147483648), (0, 2147483647, 2147483647), (0, 2147483648, 2147483648)], [(259, 35, (0, 2147483658, 2147483658)), (260, 1, (1, 3, 2147483648)), (260, 2, (0, 2147483658, 2147483658)), (279, 0, (0, 2147483648, 2147483648)), (279, 1, (0, 2147483649, 2147483649)), (279, 2, (0, 2147483650, 2147483650)), (279, 3, (0, 2147483651, 2147483651)), (279, 4, (0, 2147483652, 2147483652)), (279, 5, (0, 2147483653, 2147483653)), (279, 6, (0, 2147483654, 2147483654)), (279, 7, (0, 2147483655, 2147483655)), (279, 8, (0, 2147483656, 2147483656)), (279, 9, (0, 2147483657, 2147483657)), (288, 6, (1, 4, 2147483648)), (288, 7, (1, 5, 2147483648)), (288, 8, (1, 6, 2147483648)), (288, 9, (0, 2147483657, 2147483657))], [(273, 275, 0, 0), (272, 272, 0, 9), (279, 279, 0, 9), (288, 288, 0, 9), (273, 275, 1, 1), (273, 275, 2, 2), (273, 275, 3, 3), (273, 275, 4, 4), (273, 275, 5, 5), (273, 275, 6, 6), (273, 275, 7, 7), (273, 275, 8, 8), (273, 275, 9, 9), (259, 259, 35, 35)], [(0, (0, 0, 0)), (0, (0, 0, 0))])
def kd_H154 : List kd_St := [kd_H154_0, kd_H154_1, kd_H154_2, kd_H154_3, kd_H154_4, kd_H154_5, kd_H154_6, kd_H154_7, kd_H154_8, kd_H154_9, kd_H154_10]
theorem kd_e154 : kd_run0h kd_ty kd_x154 8 (kd_call kd_ty kd_xt (kd_ctl kd_C154) 600 2) kd_T154 600 kd_S154 kd_H154 = true := by decide +kernel
theorem kd_r154_0 : kd_run1h kd_ty kd_x154 8 (kd_call kd_ty kd_xt (kd_ctl kd_C154) 600 2) kd_T154.2.2 600 kd_S154 kd_H154 kd_S154_0 = true := by decide +kernel
theorem kd_r154_1 : kd_run1h kd_ty kd_x154 8 (kd_call kd_ty kd_xt (kd_ctl kd_C154) 600 2) kd_T154.2.2 600 kd_S154 kd_H154 kd_S154_1 = true := by decide +kernel
theorem kd_r154_2 : kd_run1h kd_ty kd_x154 8 (kd_call kd_ty kd_xt (kd_ctl kd_C154) 600 2) kd_T154.2.2 600 kd_S154 kd_H154 kd_S154_2 = true := by decide +kernel
theorem kd_r154_3 : kd_run1h kd_ty kd_x154 8 (kd_call kd_ty kd_xt (kd_ctl kd_C154) 600 2) kd_T154.2.2 600 kd_S154 kd_H154 kd_S154_3 = true := by decide +kernel
theorem kd_r154_4 : kd_run1h kd_ty kd_x154 8 (kd_call kd_ty kd_xt (kd_ctl kd_C154) 600 2) kd_T154.2.2 600 kd_S154 kd_H154 kd_S154_4 = true := by decide +kernel
theorem kd_r154_5 : kd_run1h kd_ty kd_x154 8 (kd_call kd_ty kd_xt (kd_ctl kd_C154) 600 2) kd_T154.2.2 600 kd_S154 kd_H154 kd_S154_5 = true := by decide +kernel
theorem kd_r154_6 : kd_run1h kd_ty kd_x154 8 (kd_call kd_ty kd_xt (kd_ctl kd_C154) 600 2) kd_T154.2.2 600 kd_S154 kd_H154 kd_S154_6 = true := by decide +kernel
theorem kd_r154_7 : kd_run1h kd_ty kd_x154 8 (kd_call kd_ty kd_xt (kd_ctl kd_C154) 600 2) kd_T154.2.2 600 kd_S154 kd_H154 kd_S154_7 = true := by decide +kernel
theorem kd_r154_8 : kd_run1h kd_ty kd_x154 8 (kd_call kd_ty kd_xt (kd_ctl kd_C154) 600 2) kd_T154.2.2 600 kd_S154 kd_H154 kd_S154_8 = true := by decide +kernel
theorem kd_r154_9 : kd_run1h kd_ty kd_x154 8 (kd_call kd_ty kd_xt (kd_ctl kd_C154) 600 2) kd_T154.2.2 600 kd_S154 kd_H154 kd_S154_9 = true := by decide +kernel
theorem kd_r154_10 : kd_run1h kd_ty kd_x154 8 (kd_call kd_ty kd_xt (kd_ctl kd_C154) 600 2) kd_T154.2.2 600 kd_S154 kd_H154 kd_S154_10 = true := by decide +kernel
theorem kx_ofs {n : Nat} {ρ : Nat → Nat} {x : kc_V} {k : Nat} (hk : k < 2147483648) (hx : kd_g n ρ (0, 2147483648 + k, 2147483648 + k) x) : x = .inl (Int32.ofNat k) := by
  obtain ⟨z, rfl, h1, h2⟩ := hx
  unfold kd_nb at h1 h2
  congr 1
  apply Int32.toInt_inj.mp
  rw [kx_ti hk]
  omega
theorem kw_id {h : kc_H} {n : Nat} {f : Nat → Nat} (h34 : h 259 34 = .inr (.inr (.inl (some 279)))) (h35 : h 259 35 = .inl (Int32.ofNat n)) (hf : ∀ j, j < 10 → h 279 j = .inl (Int32.ofNat (f j))) : kw_H h n f = h := by
  funext c b
  unfold kw_H
  split
  · rename_i e
    subst e
    split
    · rename_i e; subst e; exact h34.symm
    · split
      · rename_i e; subst e; exact h35.symm
      · rfl
  · split
    · rename_i e
      subst e
      split
      · rename_i hb; exact (hf b hb).symm
      · rfl
    · rfl
theorem kw_mark {g : kc_G} (hg : kc_ok g) {d n x7 : Nat} (hd : 4 ≤ d) (hn10 : n ≤ 10) (hord : x7 = 1 → n < 7 ∧ kw_ord g n) (hx7 : x7 = 0 ∨ x7 = 1) {h0 hh : kc_H} {L : kc_L} {W : kd_W} {mu ti wh c5 c6 : Int32} (hw : kd_wt kd_ty hh) (hfr : kd_fr W h0 hh) (hcov : kd_cvW kd_W154 W = true) (hmu : kd_g 0 (fun _ => 0) (0, 2147483648, 2147483650) (.inl mu)) (hti : kd_g 0 (fun _ => 0) (0, 2147483648, 2147484647) (.inl ti))
    (l0 : kc_get L 0 = some (.inr (.inr (.inl (some 259))))) (l1 : kc_get L 1 = some (.inl mu)) (l2 : kc_get L 2 = some (.inl ti)) (l3 : kc_get L 3 = some (.inl wh)) (l4 : kc_get L 4 = some (.inl (Int32.ofNat n))) (l5 : kc_get L 5 = some (.inl c5)) (l6 : kc_get L 6 = some (.inl c6)) (l7 : kc_get L 7 = some (.inl (Int32.ofNat x7)))
    (e35 : hh 259 35 = .inl (Int32.ofNat n)) (er : x7 = 1 → ∀ j, j < n → hh 279 j = .inl (Int32.ofNat j)) : kc_Ev g d wk_m154 (fun xr h' => ∃ p ∈ kd_P154, kd_rv 0 (fun _ => 0) p.1 xr ∧ kd_gF 0 (fun _ => 0) p.2.1 h' ∧ kd_wt kd_ty h' ∧ kd_fr p.2.2 h0 h') 122 L [] hh := by
  have e34 := kx_ofr (hw _ _ _ kw_k.1)
  have hfr2 : kd_fr kd_W154 h0 hh := kd_cvW_r W hcov hfr
  have hQ : ∀ (r : Int32) (f2 : Nat → Nat), (∀ j, j < 10 → f2 j ≤ 10) → ∃ p ∈ kd_P154, kd_rv 0 (fun _ => 0) p.1 (some (.inl r)) ∧ kd_gF 0 (fun _ => 0) p.2.1 (kw_H hh n f2) ∧ kd_wt kd_ty (kw_H hh n f2) ∧ kd_fr p.2.2 h0 (kw_H hh n f2) := fun r f2 hf2 => by
    refine ⟨_, List.mem_cons_self, ⟨r, rfl, Nat.zero_le _, ?_⟩, fun q hq => (by cases hq), kw_wt hw hn10 hf2, fun c b hq => ?_⟩
    · unfold kd_nb
      have := Int32.toInt_lt r
      omega
    · rw [← hfr2 c b hq]
      have q1 := kd_inr_f (hq (279, 279, 0, 9) (by decide))
      simp only at q1
      unfold kw_H
      split
      · rename_i e
        subst e
        split
        · rename_i e; subst e; exact e34.symm
        · split
          · rename_i e; subst e; exact e35.symm
          · rfl
      · split
        · rename_i e
          subst e
          rw [if_neg (by omega)]
        · rfl
  have hex : ∀ j, ∃ v, j < 10 → v ≤ 10 ∧ hh 279 j = .inl (Int32.ofNat v) ∧ (x7 = 1 → j < n → v = j) := fun j => by
    by_cases hj : j < 10
    · by_cases h1 : x7 = 1 ∧ j < n
      · exact ⟨j, fun _ => ⟨by omega, er h1.1 j h1.2, fun _ _ => rfl⟩⟩
      · obtain ⟨v, a1, a2⟩ := kx_ofg (by omega) (hw _ _ _ (kw_k279 j hj).1)
        exact ⟨v, fun _ => ⟨a1, a2, fun b1 b2 => absurd ⟨b1, b2⟩ h1⟩⟩
    · exact ⟨0, fun q => absurd q hj⟩
  obtain ⟨f, hf⟩ := Classical.axiomOfChoice hex
  have hid := kw_id (f := f) e34 e35 (fun j hj => (hf j hj).2.1)
  have key : kc_Ev g d wk_m154 (fun xr h' => ∃ p ∈ kd_P154, kd_rv 0 (fun _ => 0) p.1 xr ∧ kd_gF 0 (fun _ => 0) p.2.1 h' ∧ kd_wt kd_ty h' ∧ kd_fr p.2.2 h0 h') 122 [(7, .inl (Int32.ofNat x7)), (6, .inl c6), (5, .inl c5), (4, .inl (Int32.ofNat n)), (0, .inr (.inr (.inl (some 259)))), (1, .inl mu), (2, .inl ti), (3, .inl wh)] [] (kw_H hh n f) := by
    rcases hx7 with e7 | e7
    · subst e7
      exact kw_no (fun r => hQ r f (fun j hj => (hf j hj).1))
    · obtain ⟨n7, ho⟩ := hord e7
      have hfn : ∀ j, j < n → f j < n := fun j hj => by
        have := (hf j (by omega)).2.2 e7 hj
        omega
      subst e7
      exact kw_loop hg hd n7 ho hw hmu hti hQ (11 ^ n - kw_v f n + 1) f c6 c5 (Nat.lt_succ_self _) (fun j hj => (hf j hj).1) hfn
  rw [hid] at key
  refine kf_lo (fun q hq => ?_) key
  simp only [List.mem_cons, List.not_mem_nil, or_false] at hq
  rcases hq with rfl | rfl | rfl | rfl | rfl | rfl | rfl | rfl
  · exact l7
  · exact l6
  · exact l5
  · exact l4
  · exact l0
  · exact l1
  · exact l2
  · exact l3
theorem kd_g154_0 {g : kc_G} (hg : kc_ok g) {h0 : kc_H} : kd_hand g 5 wk_m154 kd_ty kd_P154 h0 kd_H154_0 := by
  intro σ L hh hb hL hF hw hfr
  obtain ⟨x0, l0, g0⟩ := hL 0 _ rfl rfl
  obtain ⟨x1, l1, -, mu, rfl, e1⟩ := hL 1 _ rfl rfl
  obtain ⟨x2, l2, -, ti, rfl, e2⟩ := hL 2 _ rfl rfl
  obtain ⟨x3, l3, -, wh, rfl, -⟩ := hL 3 _ rfl rfl
  obtain ⟨x4, l4, g4⟩ := hL 4 _ rfl rfl
  obtain ⟨x5, l5, c5, rfl, -⟩ := hL 5 _ rfl rfl
  obtain ⟨x6, l6, c6, rfl, -⟩ := hL 6 _ rfl rfl
  obtain ⟨x7, l7, g7⟩ := hL 7 _ rfl rfl
  have h0' : x0 = .inr (.inr (.inl (some 259))) := by
    obtain ⟨c, rfl, a1, a2⟩ := g0
    obtain rfl : c = 259 := by omega
    rfl
  subst h0'
  have b1 := hb.2 0 _ _ rfl
  have b2 := hb.2 1 _ _ rfl
  rw [kx_ofs (k := 0) (by decide) g4] at l4
  rw [kx_ofs (k := 1) (by decide) g7] at l7
  exact kw_mark hg (by decide) (by decide) (fun e => ⟨by decide, kw_ord0 hg⟩) (Or.inr rfl) hw hfr (by decide +kernel) ⟨mu, rfl, by omega, by omega⟩ ⟨ti, rfl, by omega, by omega⟩ l0 l1 l2 l3 l4 l5 l6 l7 (kx_ofs (k := 0) (by decide) (hF (259, 35, _) (by decide))) (fun e j hj => absurd hj (by omega))
theorem kd_g154_1 {g : kc_G} (hg : kc_ok g) {h0 : kc_H} : kd_hand g 5 wk_m154 kd_ty kd_P154 h0 kd_H154_1 := by
  intro σ L hh hb hL hF hw hfr
  obtain ⟨x0, l0, g0⟩ := hL 0 _ rfl rfl
  obtain ⟨x1, l1, -, mu, rfl, e1⟩ := hL 1 _ rfl rfl
  obtain ⟨x2, l2, -, ti, rfl, e2⟩ := hL 2 _ rfl rfl
  obtain ⟨x3, l3, -, wh, rfl, -⟩ := hL 3 _ rfl rfl
  obtain ⟨x4, l4, g4⟩ := hL 4 _ rfl rfl
  obtain ⟨x5, l5, c5, rfl, -⟩ := hL 5 _ rfl rfl
  obtain ⟨x6, l6, c6, rfl, -⟩ := hL 6 _ rfl rfl
  obtain ⟨x7, l7, g7⟩ := hL 7 _ rfl rfl
  have h0' : x0 = .inr (.inr (.inl (some 259))) := by
    obtain ⟨c, rfl, a1, a2⟩ := g0
    obtain rfl : c = 259 := by omega
    rfl
  subst h0'
  have b1 := hb.2 0 _ _ rfl
  have b2 := hb.2 1 _ _ rfl
  rw [kx_ofs (k := 1) (by decide) g4] at l4
  rw [kx_ofs (k := 1) (by decide) g7] at l7
  exact kw_mark hg (by decide) (by decide) (fun e => ⟨by decide, kw_ord1 hg⟩) (Or.inr rfl) hw hfr (by decide +kernel) ⟨mu, rfl, by omega, by omega⟩ ⟨ti, rfl, by omega, by omega⟩ l0 l1 l2 l3 l4 l5 l6 l7 (kx_ofs (k := 1) (by decide) (hF (259, 35, _) (by decide))) (fun e j hj => (match j, hj with
    | 0, _ => kx_ofs (k := 0) (by decide) (hF (279, 0, _) (by decide))
    | j + 1, hj => absurd hj (by omega)))
theorem kd_g154_2 {g : kc_G} (hg : kc_ok g) {h0 : kc_H} : kd_hand g 5 wk_m154 kd_ty kd_P154 h0 kd_H154_2 := by
  intro σ L hh hb hL hF hw hfr
  obtain ⟨x0, l0, g0⟩ := hL 0 _ rfl rfl
  obtain ⟨x1, l1, -, mu, rfl, e1⟩ := hL 1 _ rfl rfl
  obtain ⟨x2, l2, -, ti, rfl, e2⟩ := hL 2 _ rfl rfl
  obtain ⟨x3, l3, -, wh, rfl, -⟩ := hL 3 _ rfl rfl
  obtain ⟨x4, l4, g4⟩ := hL 4 _ rfl rfl
  obtain ⟨x5, l5, c5, rfl, -⟩ := hL 5 _ rfl rfl
  obtain ⟨x6, l6, c6, rfl, -⟩ := hL 6 _ rfl rfl
  obtain ⟨x7, l7, g7⟩ := hL 7 _ rfl rfl
  have h0' : x0 = .inr (.inr (.inl (some 259))) := by
    obtain ⟨c, rfl, a1, a2⟩ := g0
    obtain rfl : c = 259 := by omega
    rfl
  subst h0'
  have b1 := hb.2 0 _ _ rfl
  have b2 := hb.2 1 _ _ rfl
  rw [kx_ofs (k := 2) (by decide) g4] at l4
  rw [kx_ofs (k := 1) (by decide) g7] at l7
  exact kw_mark hg (by decide) (by decide) (fun e => ⟨by decide, kw_ord2 hg⟩) (Or.inr rfl) hw hfr (by decide +kernel) ⟨mu, rfl, by omega, by omega⟩ ⟨ti, rfl, by omega, by omega⟩ l0 l1 l2 l3 l4 l5 l6 l7 (kx_ofs (k := 2) (by decide) (hF (259, 35, _) (by decide))) (fun e j hj => (match j, hj with
    | 0, _ => kx_ofs (k := 0) (by decide) (hF (279, 0, _) (by decide))
    | 1, _ => kx_ofs (k := 1) (by decide) (hF (279, 1, _) (by decide))
    | j + 2, hj => absurd hj (by omega)))
theorem kd_g154_3 {g : kc_G} (hg : kc_ok g) {h0 : kc_H} : kd_hand g 5 wk_m154 kd_ty kd_P154 h0 kd_H154_3 := by
  intro σ L hh hb hL hF hw hfr
  obtain ⟨x0, l0, g0⟩ := hL 0 _ rfl rfl
  obtain ⟨x1, l1, -, mu, rfl, e1⟩ := hL 1 _ rfl rfl
  obtain ⟨x2, l2, -, ti, rfl, e2⟩ := hL 2 _ rfl rfl
  obtain ⟨x3, l3, -, wh, rfl, -⟩ := hL 3 _ rfl rfl
  obtain ⟨x4, l4, g4⟩ := hL 4 _ rfl rfl
  obtain ⟨x5, l5, c5, rfl, -⟩ := hL 5 _ rfl rfl
  obtain ⟨x6, l6, c6, rfl, -⟩ := hL 6 _ rfl rfl
  obtain ⟨x7, l7, g7⟩ := hL 7 _ rfl rfl
  have h0' : x0 = .inr (.inr (.inl (some 259))) := by
    obtain ⟨c, rfl, a1, a2⟩ := g0
    obtain rfl : c = 259 := by omega
    rfl
  subst h0'
  have b1 := hb.2 0 _ _ rfl
  have b2 := hb.2 1 _ _ rfl
  rw [kx_ofs (k := 3) (by decide) g4] at l4
  rw [kx_ofs (k := 1) (by decide) g7] at l7
  exact kw_mark hg (by decide) (by decide) (fun e => ⟨by decide, kw_ord3 hg⟩) (Or.inr rfl) hw hfr (by decide +kernel) ⟨mu, rfl, by omega, by omega⟩ ⟨ti, rfl, by omega, by omega⟩ l0 l1 l2 l3 l4 l5 l6 l7 (kx_ofs (k := 3) (by decide) (hF (259, 35, _) (by decide))) (fun e j hj => (match j, hj with
    | 0, _ => kx_ofs (k := 0) (by decide) (hF (279, 0, _) (by decide))
    | 1, _ => kx_ofs (k := 1) (by decide) (hF (279, 1, _) (by decide))
    | 2, _ => kx_ofs (k := 2) (by decide) (hF (279, 2, _) (by decide))
    | j + 3, hj => absurd hj (by omega)))
theorem kd_g154_4 {g : kc_G} (hg : kc_ok g) {h0 : kc_H} : kd_hand g 5 wk_m154 kd_ty kd_P154 h0 kd_H154_4 := by
  intro σ L hh hb hL hF hw hfr
  obtain ⟨x0, l0, g0⟩ := hL 0 _ rfl rfl
  obtain ⟨x1, l1, -, mu, rfl, e1⟩ := hL 1 _ rfl rfl
  obtain ⟨x2, l2, -, ti, rfl, e2⟩ := hL 2 _ rfl rfl
  obtain ⟨x3, l3, -, wh, rfl, -⟩ := hL 3 _ rfl rfl
  obtain ⟨x4, l4, g4⟩ := hL 4 _ rfl rfl
  obtain ⟨x5, l5, c5, rfl, -⟩ := hL 5 _ rfl rfl
  obtain ⟨x6, l6, c6, rfl, -⟩ := hL 6 _ rfl rfl
  obtain ⟨x7, l7, g7⟩ := hL 7 _ rfl rfl
  have h0' : x0 = .inr (.inr (.inl (some 259))) := by
    obtain ⟨c, rfl, a1, a2⟩ := g0
    obtain rfl : c = 259 := by omega
    rfl
  subst h0'
  have b1 := hb.2 0 _ _ rfl
  have b2 := hb.2 1 _ _ rfl
  rw [kx_ofs (k := 4) (by decide) g4] at l4
  rw [kx_ofs (k := 1) (by decide) g7] at l7
  exact kw_mark hg (by decide) (by decide) (fun e => ⟨by decide, kw_ord4 hg⟩) (Or.inr rfl) hw hfr (by decide +kernel) ⟨mu, rfl, by omega, by omega⟩ ⟨ti, rfl, by omega, by omega⟩ l0 l1 l2 l3 l4 l5 l6 l7 (kx_ofs (k := 4) (by decide) (hF (259, 35, _) (by decide))) (fun e j hj => (match j, hj with
    | 0, _ => kx_ofs (k := 0) (by decide) (hF (279, 0, _) (by decide))
    | 1, _ => kx_ofs (k := 1) (by decide) (hF (279, 1, _) (by decide))
    | 2, _ => kx_ofs (k := 2) (by decide) (hF (279, 2, _) (by decide))
    | 3, _ => kx_ofs (k := 3) (by decide) (hF (279, 3, _) (by decide))
    | j + 4, hj => absurd hj (by omega)))
theorem kd_g154_5 {g : kc_G} (hg : kc_ok g) {h0 : kc_H} : kd_hand g 5 wk_m154 kd_ty kd_P154 h0 kd_H154_5 := by
  intro σ L hh hb hL hF hw hfr
  obtain ⟨x0, l0, g0⟩ := hL 0 _ rfl rfl
  obtain ⟨x1, l1, -, mu, rfl, e1⟩ := hL 1 _ rfl rfl
  obtain ⟨x2, l2, -, ti, rfl, e2⟩ := hL 2 _ rfl rfl
  obtain ⟨x3, l3, -, wh, rfl, -⟩ := hL 3 _ rfl rfl
  obtain ⟨x4, l4, g4⟩ := hL 4 _ rfl rfl
  obtain ⟨x5, l5, c5, rfl, -⟩ := hL 5 _ rfl rfl
  obtain ⟨x6, l6, c6, rfl, -⟩ := hL 6 _ rfl rfl
  obtain ⟨x7, l7, g7⟩ := hL 7 _ rfl rfl
  have h0' : x0 = .inr (.inr (.inl (some 259))) := by
    obtain ⟨c, rfl, a1, a2⟩ := g0
    obtain rfl : c = 259 := by omega
    rfl
  subst h0'
  have b1 := hb.2 0 _ _ rfl
  have b2 := hb.2 1 _ _ rfl
  rw [kx_ofs (k := 5) (by decide) g4] at l4
  rw [kx_ofs (k := 1) (by decide) g7] at l7
  exact kw_mark hg (by decide) (by decide) (fun e => ⟨by decide, kw_ord5 hg⟩) (Or.inr rfl) hw hfr (by decide +kernel) ⟨mu, rfl, by omega, by omega⟩ ⟨ti, rfl, by omega, by omega⟩ l0 l1 l2 l3 l4 l5 l6 l7 (kx_ofs (k := 5) (by decide) (hF (259, 35, _) (by decide))) (fun e j hj => (match j, hj with
    | 0, _ => kx_ofs (k := 0) (by decide) (hF (279, 0, _) (by decide))
    | 1, _ => kx_ofs (k := 1) (by decide) (hF (279, 1, _) (by decide))
    | 2, _ => kx_ofs (k := 2) (by decide) (hF (279, 2, _) (by decide))
    | 3, _ => kx_ofs (k := 3) (by decide) (hF (279, 3, _) (by decide))
    | 4, _ => kx_ofs (k := 4) (by decide) (hF (279, 4, _) (by decide))
    | j + 5, hj => absurd hj (by omega)))
theorem kd_g154_6 {g : kc_G} (hg : kc_ok g) {h0 : kc_H} : kd_hand g 5 wk_m154 kd_ty kd_P154 h0 kd_H154_6 := by
  intro σ L hh hb hL hF hw hfr
  obtain ⟨x0, l0, g0⟩ := hL 0 _ rfl rfl
  obtain ⟨x1, l1, -, mu, rfl, e1⟩ := hL 1 _ rfl rfl
  obtain ⟨x2, l2, -, ti, rfl, e2⟩ := hL 2 _ rfl rfl
  obtain ⟨x3, l3, -, wh, rfl, -⟩ := hL 3 _ rfl rfl
  obtain ⟨x4, l4, g4⟩ := hL 4 _ rfl rfl
  obtain ⟨x5, l5, c5, rfl, -⟩ := hL 5 _ rfl rfl
  obtain ⟨x6, l6, c6, rfl, -⟩ := hL 6 _ rfl rfl
  obtain ⟨x7, l7, g7⟩ := hL 7 _ rfl rfl
  have h0' : x0 = .inr (.inr (.inl (some 259))) := by
    obtain ⟨c, rfl, a1, a2⟩ := g0
    obtain rfl : c = 259 := by omega
    rfl
  subst h0'
  have b1 := hb.2 0 _ _ rfl
  have b2 := hb.2 1 _ _ rfl
  rw [kx_ofs (k := 6) (by decide) g4] at l4
  rw [kx_ofs (k := 1) (by decide) g7] at l7
  exact kw_mark hg (by decide) (by decide) (fun e => ⟨by decide, kw_ord6 hg⟩) (Or.inr rfl) hw hfr (by decide +kernel) ⟨mu, rfl, by omega, by omega⟩ ⟨ti, rfl, by omega, by omega⟩ l0 l1 l2 l3 l4 l5 l6 l7 (kx_ofs (k := 6) (by decide) (hF (259, 35, _) (by decide))) (fun e j hj => (match j, hj with
    | 0, _ => kx_ofs (k := 0) (by decide) (hF (279, 0, _) (by decide))
    | 1, _ => kx_ofs (k := 1) (by decide) (hF (279, 1, _) (by decide))
    | 2, _ => kx_ofs (k := 2) (by decide) (hF (279, 2, _) (by decide))
    | 3, _ => kx_ofs (k := 3) (by decide) (hF (279, 3, _) (by decide))
    | 4, _ => kx_ofs (k := 4) (by decide) (hF (279, 4, _) (by decide))
    | 5, _ => kx_ofs (k := 5) (by decide) (hF (279, 5, _) (by decide))
    | j + 6, hj => absurd hj (by omega)))
theorem kd_g154_7 {g : kc_G} (hg : kc_ok g) {h0 : kc_H} : kd_hand g 5 wk_m154 kd_ty kd_P154 h0 kd_H154_7 := by
  intro σ L hh hb hL hF hw hfr
  obtain ⟨x0, l0, g0⟩ := hL 0 _ rfl rfl
  obtain ⟨x1, l1, -, mu, rfl, e1⟩ := hL 1 _ rfl rfl
  obtain ⟨x2, l2, -, ti, rfl, e2⟩ := hL 2 _ rfl rfl
  obtain ⟨x3, l3, -, wh, rfl, -⟩ := hL 3 _ rfl rfl
  obtain ⟨x4, l4, g4⟩ := hL 4 _ rfl rfl
  obtain ⟨x5, l5, c5, rfl, -⟩ := hL 5 _ rfl rfl
  obtain ⟨x6, l6, c6, rfl, -⟩ := hL 6 _ rfl rfl
  obtain ⟨x7, l7, g7⟩ := hL 7 _ rfl rfl
  have h0' : x0 = .inr (.inr (.inl (some 259))) := by
    obtain ⟨c, rfl, a1, a2⟩ := g0
    obtain rfl : c = 259 := by omega
    rfl
  subst h0'
  have b1 := hb.2 0 _ _ rfl
  have b2 := hb.2 1 _ _ rfl
  rw [kx_ofs (k := 7) (by decide) g4] at l4
  rw [kx_ofs (k := 0) (by decide) g7] at l7
  exact kw_mark hg (by decide) (by decide) (fun e => absurd e (by decide)) (Or.inl rfl) hw hfr (by decide +kernel) ⟨mu, rfl, by omega, by omega⟩ ⟨ti, rfl, by omega, by omega⟩ l0 l1 l2 l3 l4 l5 l6 l7 (kx_ofs (k := 7) (by decide) (hF (259, 35, _) (by decide))) (fun e j hj => absurd e (by decide))
theorem kd_g154_8 {g : kc_G} (hg : kc_ok g) {h0 : kc_H} : kd_hand g 5 wk_m154 kd_ty kd_P154 h0 kd_H154_8 := by
  intro σ L hh hb hL hF hw hfr
  obtain ⟨x0, l0, g0⟩ := hL 0 _ rfl rfl
  obtain ⟨x1, l1, -, mu, rfl, e1⟩ := hL 1 _ rfl rfl
  obtain ⟨x2, l2, -, ti, rfl, e2⟩ := hL 2 _ rfl rfl
  obtain ⟨x3, l3, -, wh, rfl, -⟩ := hL 3 _ rfl rfl
  obtain ⟨x4, l4, g4⟩ := hL 4 _ rfl rfl
  obtain ⟨x5, l5, c5, rfl, -⟩ := hL 5 _ rfl rfl
  obtain ⟨x6, l6, c6, rfl, -⟩ := hL 6 _ rfl rfl
  obtain ⟨x7, l7, g7⟩ := hL 7 _ rfl rfl
  have h0' : x0 = .inr (.inr (.inl (some 259))) := by
    obtain ⟨c, rfl, a1, a2⟩ := g0
    obtain rfl : c = 259 := by omega
    rfl
  subst h0'
  have b1 := hb.2 0 _ _ rfl
  have b2 := hb.2 1 _ _ rfl
  rw [kx_ofs (k := 8) (by decide) g4] at l4
  rw [kx_ofs (k := 0) (by decide) g7] at l7
  exact kw_mark hg (by decide) (by decide) (fun e => absurd e (by decide)) (Or.inl rfl) hw hfr (by decide +kernel) ⟨mu, rfl, by omega, by omega⟩ ⟨ti, rfl, by omega, by omega⟩ l0 l1 l2 l3 l4 l5 l6 l7 (kx_ofs (k := 8) (by decide) (hF (259, 35, _) (by decide))) (fun e j hj => absurd e (by decide))
theorem kd_g154_9 {g : kc_G} (hg : kc_ok g) {h0 : kc_H} : kd_hand g 5 wk_m154 kd_ty kd_P154 h0 kd_H154_9 := by
  intro σ L hh hb hL hF hw hfr
  obtain ⟨x0, l0, g0⟩ := hL 0 _ rfl rfl
  obtain ⟨x1, l1, -, mu, rfl, e1⟩ := hL 1 _ rfl rfl
  obtain ⟨x2, l2, -, ti, rfl, e2⟩ := hL 2 _ rfl rfl
  obtain ⟨x3, l3, -, wh, rfl, -⟩ := hL 3 _ rfl rfl
  obtain ⟨x4, l4, g4⟩ := hL 4 _ rfl rfl
  obtain ⟨x5, l5, c5, rfl, -⟩ := hL 5 _ rfl rfl
  obtain ⟨x6, l6, c6, rfl, -⟩ := hL 6 _ rfl rfl
  obtain ⟨x7, l7, g7⟩ := hL 7 _ rfl rfl
  have h0' : x0 = .inr (.inr (.inl (some 259))) := by
    obtain ⟨c, rfl, a1, a2⟩ := g0
    obtain rfl : c = 259 := by omega
    rfl
  subst h0'
  have b1 := hb.2 0 _ _ rfl
  have b2 := hb.2 1 _ _ rfl
  rw [kx_ofs (k := 9) (by decide) g4] at l4
  rw [kx_ofs (k := 0) (by decide) g7] at l7
  exact kw_mark hg (by decide) (by decide) (fun e => absurd e (by decide)) (Or.inl rfl) hw hfr (by decide +kernel) ⟨mu, rfl, by omega, by omega⟩ ⟨ti, rfl, by omega, by omega⟩ l0 l1 l2 l3 l4 l5 l6 l7 (kx_ofs (k := 9) (by decide) (hF (259, 35, _) (by decide))) (fun e j hj => absurd e (by decide))
theorem kd_g154_10 {g : kc_G} (hg : kc_ok g) {h0 : kc_H} : kd_hand g 5 wk_m154 kd_ty kd_P154 h0 kd_H154_10 := by
  intro σ L hh hb hL hF hw hfr
  obtain ⟨x0, l0, g0⟩ := hL 0 _ rfl rfl
  obtain ⟨x1, l1, -, mu, rfl, e1⟩ := hL 1 _ rfl rfl
  obtain ⟨x2, l2, -, ti, rfl, e2⟩ := hL 2 _ rfl rfl
  obtain ⟨x3, l3, -, wh, rfl, -⟩ := hL 3 _ rfl rfl
  obtain ⟨x4, l4, g4⟩ := hL 4 _ rfl rfl
  obtain ⟨x5, l5, c5, rfl, -⟩ := hL 5 _ rfl rfl
  obtain ⟨x6, l6, c6, rfl, -⟩ := hL 6 _ rfl rfl
  obtain ⟨x7, l7, g7⟩ := hL 7 _ rfl rfl
  have h0' : x0 = .inr (.inr (.inl (some 259))) := by
    obtain ⟨c, rfl, a1, a2⟩ := g0
    obtain rfl : c = 259 := by omega
    rfl
  subst h0'
  have b1 := hb.2 0 _ _ rfl
  have b2 := hb.2 1 _ _ rfl
  rw [kx_ofs (k := 10) (by decide) g4] at l4
  rw [kx_ofs (k := 0) (by decide) g7] at l7
  exact kw_mark hg (by decide) (by decide) (fun e => absurd e (by decide)) (Or.inl rfl) hw hfr (by decide +kernel) ⟨mu, rfl, by omega, by omega⟩ ⟨ti, rfl, by omega, by omega⟩ l0 l1 l2 l3 l4 l5 l6 l7 (kx_ofs (k := 10) (by decide) (hF (259, 35, _) (by decide))) (fun e j hj => absurd e (by decide))
theorem kd_h154 {g : kc_G} (hg : kc_ok g) : kd_hold g 6 kd_ty 154 kd_T154 := kd_new_h (d := 5) (X := kd_x154) hg rfl rfl rfl kd_xk154 (fun h0 => kd_call_r (d0 := 3) hg kd_xt_ok (kd_ctl_r kd_C154 (kd_al_r kd_C154 ⟨kd_hold_le (kd_h105 hg) (by decide), kd_hold_le (kd_h237k6 hg) (by decide), kd_hold_le (kd_h237k2 hg) (by decide), trivial⟩)) 2) (by decide +kernel) (by decide +kernel) (fun h0 => kd_al_r kd_H154 ⟨kd_g154_0 hg, kd_g154_1 hg, kd_g154_2 hg, kd_g154_3 hg, kd_g154_4 hg, kd_g154_5 hg, kd_g154_6 hg, kd_g154_7 hg, kd_g154_8 hg, kd_g154_9 hg, kd_g154_10 hg, trivial⟩) kd_e154 (kd_al_r kd_S154 ⟨kd_r154_0, kd_r154_1, kd_r154_2, kd_r154_3, kd_r154_4, kd_r154_5, kd_r154_6, kd_r154_7, kd_r154_8, kd_r154_9, kd_r154_10, trivial⟩)
