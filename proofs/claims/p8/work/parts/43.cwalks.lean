abbrev xl_0 (G : bgGl) : List va_E := [.inr (0, [cu, cu, cu, cu, cu, cu, cz, cz, cz])]
abbrev xl_1 (G : bgGl) : List va_E := [.inr (0, [cu, cu, cu, cu, cu, cu, cz, cz, cz]), .inr (1, [cz, cz])]
abbrev xl_2 (G : bgGl) : List va_E := [.inr (0, [cu, cu, cu, cu, cu, cu, cz, cz, cz]), .inr (1, [(cn (-1)), cz])]
abbrev xl_3 (G : bgGl) : List va_E := [.inr (0, [cu, cu, cu, cu, cu, cu, cz, cz, cz]), .inr (1, [(cn (-1)), (cn 0)])]
abbrev xl_4 (G : bgGl) : List va_E := [.inr (0, [(cr G 1), cu, cu, cu, cu, cu, cz, cz, cz]), .inr (1, [(cn (-1)), (cn 0)])]
abbrev xl_5 (G : bgGl) : List va_E := [.inr (0, [(cr G 1), cu, cu, cu, cu, cu, cz, cz, cz]), .inr (1, [(cn (-1)), (cn 0)]), .inr (2, [cu, cz, cz, cz])]
abbrev xl_6 (G : bgGl) : List va_E := [.inr (0, [(cr G 1), cu, cu, cu, cu, cu, cz, cz, cz]), .inr (1, [(cn (-1)), (cn 0)]), .inr (2, [cu, cz, cz, cz]), ca G 0 50]
abbrev xl_7 (G : bgGl) : List va_E := [.inr (0, [(cr G 1), cu, cu, cu, cu, cu, cz, cz, cz]), .inr (1, [(cn (-1)), (cn 0)]), .inr (2, [(cr G 3), cz, cz, cz]), ca G 0 50]
abbrev xl_8 (G : bgGl) : List va_E := [.inr (0, [(cr G 1), cu, cu, cu, cu, cu, cz, cz, cz]), .inr (1, [(cn (-1)), (cn 0)]), .inr (2, [(cr G 3), (cn 0), cz, cz]), ca G 0 50]
abbrev xl_9 (G : bgGl) : List va_E := [.inr (0, [(cr G 1), cu, cu, cu, cu, cu, cz, cz, cz]), .inr (1, [(cn (-1)), (cn 0)]), .inr (2, [(cr G 3), (cn 0), (cn 0), cz]), ca G 0 50]
abbrev xl_10 (G : bgGl) : List va_E := [.inr (0, [(cr G 1), cu, cu, cu, cu, cu, cz, cz, cz]), .inr (1, [(cn (-1)), (cn 0)]), .inr (2, [(cr G 3), (cn 0), (cn 0), (cn 8)]), ca G 0 50]
abbrev xl_11 (G : bgGl) : List va_E := [.inr (0, [(cr G 1), (cr G 2), cu, cu, cu, cu, cz, cz, cz]), .inr (1, [(cn (-1)), (cn 0)]), .inr (2, [(cr G 3), (cn 0), (cn 0), (cn 8)]), ca G 0 50]
abbrev xl_12 (G : bgGl) : List va_E := [.inr (0, [(cr G 1), (cr G 2), cu, cu, cu, cu, cz, cz, cz]), .inr (1, [(cn (-1)), (cn 0)]), .inr (2, [(cr G 3), (cn 0), (cn 0), (cn 8)]), ca G 0 50, .inr (3, [cu, cu, cu, cu, cz, cz])]
abbrev xl_13 (G : bgGl) : List va_E := [.inr (0, [(cr G 1), (cr G 2), cu, cu, cu, cu, cz, cz, cz]), .inr (1, [(cn (-1)), (cn 0)]), .inr (2, [(cr G 3), (cn 0), (cn 0), (cn 8)]), ca G 0 50, .inr (3, [cu, cu, cu, cu, cz, cz]), .inr (4, [cu, cu, cu, cu, cz])]
abbrev xl_14 (G : bgGl) : List va_E := [.inr (0, [(cr G 1), (cr G 2), cu, cu, cu, cu, cz, cz, cz]), .inr (1, [(cn (-1)), (cn 0)]), .inr (2, [(cr G 3), (cn 0), (cn 0), (cn 8)]), ca G 0 50, .inr (3, [cu, cu, cu, cu, cz, cz]), .inr (4, [cu, cu, cu, cu, cz]), ca G 0 20]
abbrev xl_15 (G : bgGl) : List va_E := [.inr (0, [(cr G 1), (cr G 2), cu, cu, cu, cu, cz, cz, cz]), .inr (1, [(cn (-1)), (cn 0)]), .inr (2, [(cr G 3), (cn 0), (cn 0), (cn 8)]), ca G 0 50, .inr (3, [cu, cu, cu, cu, cz, cz]), .inr (4, [(cr G 6), cu, cu, cu, cz]), ca G 0 20]
abbrev xl_16 (G : bgGl) : List va_E := [.inr (0, [(cr G 1), (cr G 2), cu, cu, cu, cu, cz, cz, cz]), .inr (1, [(cn (-1)), (cn 0)]), .inr (2, [(cr G 3), (cn 0), (cn 0), (cn 8)]), ca G 0 50, .inr (3, [cu, cu, cu, cu, cz, cz]), .inr (4, [(cr G 6), cu, cu, cu, cz]), ca G 0 20, ca G 0 20]
abbrev xl_17 (G : bgGl) : List va_E := [.inr (0, [(cr G 1), (cr G 2), cu, cu, cu, cu, cz, cz, cz]), .inr (1, [(cn (-1)), (cn 0)]), .inr (2, [(cr G 3), (cn 0), (cn 0), (cn 8)]), ca G 0 50, .inr (3, [cu, cu, cu, cu, cz, cz]), .inr (4, [(cr G 6), (cr G 7), cu, cu, cz]), ca G 0 20, ca G 0 20]
abbrev xl_18 (G : bgGl) : List va_E := [.inr (0, [(cr G 1), (cr G 2), cu, cu, cu, cu, cz, cz, cz]), .inr (1, [(cn (-1)), (cn 0)]), .inr (2, [(cr G 3), (cn 0), (cn 0), (cn 8)]), ca G 0 50, .inr (3, [cu, cu, cu, cu, cz, cz]), .inr (4, [(cr G 6), (cr G 7), cu, cu, cz]), ca G 0 20, ca G 0 20, ca G 0 20]
abbrev xl_19 (G : bgGl) : List va_E := [.inr (0, [(cr G 1), (cr G 2), cu, cu, cu, cu, cz, cz, cz]), .inr (1, [(cn (-1)), (cn 0)]), .inr (2, [(cr G 3), (cn 0), (cn 0), (cn 8)]), ca G 0 50, .inr (3, [cu, cu, cu, cu, cz, cz]), .inr (4, [(cr G 6), (cr G 7), (cr G 8), cu, cz]), ca G 0 20, ca G 0 20, ca G 0 20]
abbrev xl_20 (G : bgGl) : List va_E := [.inr (0, [(cr G 1), (cr G 2), cu, cu, cu, cu, cz, cz, cz]), .inr (1, [(cn (-1)), (cn 0)]), .inr (2, [(cr G 3), (cn 0), (cn 0), (cn 8)]), ca G 0 50, .inr (3, [cu, cu, cu, cu, cz, cz]), .inr (4, [(cr G 6), (cr G 7), (cr G 8), cu, cz]), ca G 0 20, ca G 0 20, ca G 0 20, ca G 0 20]
abbrev xl_21 (G : bgGl) : List va_E := [.inr (0, [(cr G 1), (cr G 2), cu, cu, cu, cu, cz, cz, cz]), .inr (1, [(cn (-1)), (cn 0)]), .inr (2, [(cr G 3), (cn 0), (cn 0), (cn 8)]), ca G 0 50, .inr (3, [cu, cu, cu, cu, cz, cz]), .inr (4, [(cr G 6), (cr G 7), (cr G 8), (cr G 9), cz]), ca G 0 20, ca G 0 20, ca G 0 20, ca G 0 20]
abbrev xl_22 (G : bgGl) : List va_E := [.inr (0, [(cr G 1), (cr G 2), cu, cu, cu, cu, cz, cz, cz]), .inr (1, [(cn (-1)), (cn 0)]), .inr (2, [(cr G 3), (cn 0), (cn 0), (cn 8)]), ca G 0 50, .inr (3, [cu, cu, cu, cu, cz, cz]), .inr (4, [(cr G 6), (cr G 7), (cr G 8), (cr G 9), (cn 0)]), ca G 0 20, ca G 0 20, ca G 0 20, ca G 0 20]
abbrev xl_23 (G : bgGl) : List va_E := [.inr (0, [(cr G 1), (cr G 2), cu, cu, cu, cu, cz, cz, cz]), .inr (1, [(cn (-1)), (cn 0)]), .inr (2, [(cr G 3), (cn 0), (cn 0), (cn 8)]), ca G 0 50, .inr (3, [cu, cu, (cr G 5), cu, cz, cz]), .inr (4, [(cr G 6), (cr G 7), (cr G 8), (cr G 9), (cn 0)]), ca G 0 20, ca G 0 20, ca G 0 20, ca G 0 20]
abbrev xl_24 (G : bgGl) : List va_E := [.inr (0, [(cr G 1), (cr G 2), cu, cu, cu, cu, cz, cz, cz]), .inr (1, [(cn (-1)), (cn 0)]), .inr (2, [(cr G 3), (cn 0), (cn 0), (cn 8)]), ca G 0 50, .inr (3, [cu, cu, (cr G 5), cu, cz, cz]), .inr (4, [(cr G 6), (cr G 7), (cr G 8), (cr G 9), (cn 0)]), ca G 0 20, ca G 0 20, ca G 0 20, ca G 0 20, .inr (5, [cu, cu, cu, cz])]
abbrev xl_25 (G : bgGl) : List va_E := [.inr (0, [(cr G 1), (cr G 2), cu, cu, cu, cu, cz, cz, cz]), .inr (1, [(cn (-1)), (cn 0)]), .inr (2, [(cr G 3), (cn 0), (cn 0), (cn 8)]), ca G 0 50, .inr (3, [cu, cu, (cr G 5), cu, cz, cz]), .inr (4, [(cr G 6), (cr G 7), (cr G 8), (cr G 9), (cn 0)]), ca G 0 20, ca G 0 20, ca G 0 20, ca G 0 20, .inr (5, [cu, cu, cu, cz]), ca G 0 200]
abbrev xl_26 (G : bgGl) : List va_E := [.inr (0, [(cr G 1), (cr G 2), cu, cu, cu, cu, cz, cz, cz]), .inr (1, [(cn (-1)), (cn 0)]), .inr (2, [(cr G 3), (cn 0), (cn 0), (cn 8)]), ca G 0 50, .inr (3, [cu, cu, (cr G 5), cu, cz, cz]), .inr (4, [(cr G 6), (cr G 7), (cr G 8), (cr G 9), (cn 0)]), ca G 0 20, ca G 0 20, ca G 0 20, ca G 0 20, .inr (5, [(cr G 11), cu, cu, cz]), ca G 0 200]
abbrev xl_27 (G : bgGl) : List va_E := [.inr (0, [(cr G 1), (cr G 2), cu, cu, cu, cu, cz, cz, cz]), .inr (1, [(cn (-1)), (cn 0)]), .inr (2, [(cr G 3), (cn 0), (cn 0), (cn 8)]), ca G 0 50, .inr (3, [cu, cu, (cr G 5), cu, cz, cz]), .inr (4, [(cr G 6), (cr G 7), (cr G 8), (cr G 9), (cn 0)]), ca G 0 20, ca G 0 20, ca G 0 20, ca G 0 20, .inr (5, [(cr G 11), cu, cu, cz]), ca G 0 200, ca G 0 200]
abbrev xl_28 (G : bgGl) : List va_E := [.inr (0, [(cr G 1), (cr G 2), cu, cu, cu, cu, cz, cz, cz]), .inr (1, [(cn (-1)), (cn 0)]), .inr (2, [(cr G 3), (cn 0), (cn 0), (cn 8)]), ca G 0 50, .inr (3, [cu, cu, (cr G 5), cu, cz, cz]), .inr (4, [(cr G 6), (cr G 7), (cr G 8), (cr G 9), (cn 0)]), ca G 0 20, ca G 0 20, ca G 0 20, ca G 0 20, .inr (5, [(cr G 11), (cr G 12), cu, cz]), ca G 0 200, ca G 0 200]
abbrev xl_29 (G : bgGl) : List va_E := [.inr (0, [(cr G 1), (cr G 2), cu, cu, cu, cu, cz, cz, cz]), .inr (1, [(cn (-1)), (cn 0)]), .inr (2, [(cr G 3), (cn 0), (cn 0), (cn 8)]), ca G 0 50, .inr (3, [cu, cu, (cr G 5), cu, cz, cz]), .inr (4, [(cr G 6), (cr G 7), (cr G 8), (cr G 9), (cn 0)]), ca G 0 20, ca G 0 20, ca G 0 20, ca G 0 20, .inr (5, [(cr G 11), (cr G 12), cu, cz]), ca G 0 200, ca G 0 200, ca G 0 200]
abbrev xl_30 (G : bgGl) : List va_E := [.inr (0, [(cr G 1), (cr G 2), cu, cu, cu, cu, cz, cz, cz]), .inr (1, [(cn (-1)), (cn 0)]), .inr (2, [(cr G 3), (cn 0), (cn 0), (cn 8)]), ca G 0 50, .inr (3, [cu, cu, (cr G 5), cu, cz, cz]), .inr (4, [(cr G 6), (cr G 7), (cr G 8), (cr G 9), (cn 0)]), ca G 0 20, ca G 0 20, ca G 0 20, ca G 0 20, .inr (5, [(cr G 11), (cr G 12), (cr G 13), cz]), ca G 0 200, ca G 0 200, ca G 0 200]
abbrev xl_31 (G : bgGl) : List va_E := [.inr (0, [(cr G 1), (cr G 2), cu, cu, cu, cu, cz, cz, cz]), .inr (1, [(cn (-1)), (cn 0)]), .inr (2, [(cr G 3), (cn 0), (cn 0), (cn 8)]), ca G 0 50, .inr (3, [cu, cu, (cr G 5), cu, cz, cz]), .inr (4, [(cr G 6), (cr G 7), (cr G 8), (cr G 9), (cn 0)]), ca G 0 20, ca G 0 20, ca G 0 20, ca G 0 20, .inr (5, [(cr G 11), (cr G 12), (cr G 13), (cn 0)]), ca G 0 200, ca G 0 200, ca G 0 200]
abbrev xl_32 (G : bgGl) : List va_E := [.inr (0, [(cr G 1), (cr G 2), cu, cu, cu, cu, cz, cz, cz]), .inr (1, [(cn (-1)), (cn 0)]), .inr (2, [(cr G 3), (cn 0), (cn 0), (cn 8)]), ca G 0 50, .inr (3, [cu, cu, (cr G 5), (cr G 10), cz, cz]), .inr (4, [(cr G 6), (cr G 7), (cr G 8), (cr G 9), (cn 0)]), ca G 0 20, ca G 0 20, ca G 0 20, ca G 0 20, .inr (5, [(cr G 11), (cr G 12), (cr G 13), (cn 0)]), ca G 0 200, ca G 0 200, ca G 0 200]
abbrev xl_33 (G : bgGl) : List va_E := [.inr (0, [(cr G 1), (cr G 2), cu, cu, cu, cu, cz, cz, cz]), .inr (1, [(cn (-1)), (cn 0)]), .inr (2, [(cr G 3), (cn 0), (cn 0), (cn 8)]), ca G 0 50, .inr (3, [cu, cu, (cr G 5), (cr G 10), (cn 0), cz]), .inr (4, [(cr G 6), (cr G 7), (cr G 8), (cr G 9), (cn 0)]), ca G 0 20, ca G 0 20, ca G 0 20, ca G 0 20, .inr (5, [(cr G 11), (cr G 12), (cr G 13), (cn 0)]), ca G 0 200, ca G 0 200, ca G 0 200]
abbrev xl_34 (G : bgGl) : List va_E := [.inr (0, [(cr G 1), (cr G 2), cu, cu, cu, cu, cz, cz, cz]), .inr (1, [(cn (-1)), (cn 0)]), .inr (2, [(cr G 3), (cn 0), (cn 0), (cn 8)]), ca G 0 50, .inr (3, [cu, cu, (cr G 5), (cr G 10), (cn 0), (cn 0)]), .inr (4, [(cr G 6), (cr G 7), (cr G 8), (cr G 9), (cn 0)]), ca G 0 20, ca G 0 20, ca G 0 20, ca G 0 20, .inr (5, [(cr G 11), (cr G 12), (cr G 13), (cn 0)]), ca G 0 200, ca G 0 200, ca G 0 200]
abbrev xl_35 (G : bgGl) : List va_E := [.inr (0, [(cr G 1), (cr G 2), cu, cu, cu, cu, cz, cz, cz]), .inr (1, [(cn (-1)), (cn 0)]), .inr (2, [(cr G 3), (cn 0), (cn 0), (cn 8)]), ca G 0 50, .inr (3, [(cr G 1), cu, (cr G 5), (cr G 10), (cn 0), (cn 0)]), .inr (4, [(cr G 6), (cr G 7), (cr G 8), (cr G 9), (cn 0)]), ca G 0 20, ca G 0 20, ca G 0 20, ca G 0 20, .inr (5, [(cr G 11), (cr G 12), (cr G 13), (cn 0)]), ca G 0 200, ca G 0 200, ca G 0 200]
abbrev xl_36 (G : bgGl) : List va_E := [.inr (0, [(cr G 1), (cr G 2), cu, cu, cu, cu, cz, cz, cz]), .inr (1, [(cn (-1)), (cn 0)]), .inr (2, [(cr G 3), (cn 0), (cn 0), (cn 8)]), ca G 0 50, .inr (3, [(cr G 1), (cr G 2), (cr G 5), (cr G 10), (cn 0), (cn 0)]), .inr (4, [(cr G 6), (cr G 7), (cr G 8), (cr G 9), (cn 0)]), ca G 0 20, ca G 0 20, ca G 0 20, ca G 0 20, .inr (5, [(cr G 11), (cr G 12), (cr G 13), (cn 0)]), ca G 0 200, ca G 0 200, ca G 0 200]
abbrev xl_37 (G : bgGl) : List va_E := [.inr (0, [(cr G 1), (cr G 2), (cr G 4), cu, cu, cu, cz, cz, cz]), .inr (1, [(cn (-1)), (cn 0)]), .inr (2, [(cr G 3), (cn 0), (cn 0), (cn 8)]), ca G 0 50, .inr (3, [(cr G 1), (cr G 2), (cr G 5), (cr G 10), (cn 0), (cn 0)]), .inr (4, [(cr G 6), (cr G 7), (cr G 8), (cr G 9), (cn 0)]), ca G 0 20, ca G 0 20, ca G 0 20, ca G 0 20, .inr (5, [(cr G 11), (cr G 12), (cr G 13), (cn 0)]), ca G 0 200, ca G 0 200, ca G 0 200]
abbrev xl_38 (G : bgGl) : List va_E := [.inr (0, [(cr G 1), (cr G 2), (cr G 4), cu, cu, cu, cz, cz, cz]), .inr (1, [(cn (-1)), (cn 0)]), .inr (2, [(cr G 3), (cn 0), (cn 0), (cn 8)]), ca G 0 50, .inr (3, [(cr G 1), (cr G 2), (cr G 5), (cr G 10), (cn 0), (cn 0)]), .inr (4, [(cr G 6), (cr G 7), (cr G 8), (cr G 9), (cn 0)]), ca G 0 20, ca G 0 20, ca G 0 20, ca G 0 20, .inr (5, [(cr G 11), (cr G 12), (cr G 13), (cn 0)]), ca G 0 200, ca G 0 200, ca G 0 200, .inr (5, [cu, cu, cu, cz])]
abbrev xl_39 (G : bgGl) : List va_E := [.inr (0, [(cr G 1), (cr G 2), (cr G 4), cu, cu, cu, cz, cz, cz]), .inr (1, [(cn (-1)), (cn 0)]), .inr (2, [(cr G 3), (cn 0), (cn 0), (cn 8)]), ca G 0 50, .inr (3, [(cr G 1), (cr G 2), (cr G 5), (cr G 10), (cn 0), (cn 0)]), .inr (4, [(cr G 6), (cr G 7), (cr G 8), (cr G 9), (cn 0)]), ca G 0 20, ca G 0 20, ca G 0 20, ca G 0 20, .inr (5, [(cr G 11), (cr G 12), (cr G 13), (cn 0)]), ca G 0 200, ca G 0 200, ca G 0 200, .inr (5, [cu, cu, cu, cz]), ca G 0 200]
abbrev xl_40 (G : bgGl) : List va_E := [.inr (0, [(cr G 1), (cr G 2), (cr G 4), cu, cu, cu, cz, cz, cz]), .inr (1, [(cn (-1)), (cn 0)]), .inr (2, [(cr G 3), (cn 0), (cn 0), (cn 8)]), ca G 0 50, .inr (3, [(cr G 1), (cr G 2), (cr G 5), (cr G 10), (cn 0), (cn 0)]), .inr (4, [(cr G 6), (cr G 7), (cr G 8), (cr G 9), (cn 0)]), ca G 0 20, ca G 0 20, ca G 0 20, ca G 0 20, .inr (5, [(cr G 11), (cr G 12), (cr G 13), (cn 0)]), ca G 0 200, ca G 0 200, ca G 0 200, .inr (5, [(cr G 15), cu, cu, cz]), ca G 0 200]
abbrev xl_41 (G : bgGl) : List va_E := [.inr (0, [(cr G 1), (cr G 2), (cr G 4), cu, cu, cu, cz, cz, cz]), .inr (1, [(cn (-1)), (cn 0)]), .inr (2, [(cr G 3), (cn 0), (cn 0), (cn 8)]), ca G 0 50, .inr (3, [(cr G 1), (cr G 2), (cr G 5), (cr G 10), (cn 0), (cn 0)]), .inr (4, [(cr G 6), (cr G 7), (cr G 8), (cr G 9), (cn 0)]), ca G 0 20, ca G 0 20, ca G 0 20, ca G 0 20, .inr (5, [(cr G 11), (cr G 12), (cr G 13), (cn 0)]), ca G 0 200, ca G 0 200, ca G 0 200, .inr (5, [(cr G 15), cu, cu, cz]), ca G 0 200, ca G 0 200]
abbrev xl_42 (G : bgGl) : List va_E := [.inr (0, [(cr G 1), (cr G 2), (cr G 4), cu, cu, cu, cz, cz, cz]), .inr (1, [(cn (-1)), (cn 0)]), .inr (2, [(cr G 3), (cn 0), (cn 0), (cn 8)]), ca G 0 50, .inr (3, [(cr G 1), (cr G 2), (cr G 5), (cr G 10), (cn 0), (cn 0)]), .inr (4, [(cr G 6), (cr G 7), (cr G 8), (cr G 9), (cn 0)]), ca G 0 20, ca G 0 20, ca G 0 20, ca G 0 20, .inr (5, [(cr G 11), (cr G 12), (cr G 13), (cn 0)]), ca G 0 200, ca G 0 200, ca G 0 200, .inr (5, [(cr G 15), (cr G 16), cu, cz]), ca G 0 200, ca G 0 200]
abbrev xl_43 (G : bgGl) : List va_E := [.inr (0, [(cr G 1), (cr G 2), (cr G 4), cu, cu, cu, cz, cz, cz]), .inr (1, [(cn (-1)), (cn 0)]), .inr (2, [(cr G 3), (cn 0), (cn 0), (cn 8)]), ca G 0 50, .inr (3, [(cr G 1), (cr G 2), (cr G 5), (cr G 10), (cn 0), (cn 0)]), .inr (4, [(cr G 6), (cr G 7), (cr G 8), (cr G 9), (cn 0)]), ca G 0 20, ca G 0 20, ca G 0 20, ca G 0 20, .inr (5, [(cr G 11), (cr G 12), (cr G 13), (cn 0)]), ca G 0 200, ca G 0 200, ca G 0 200, .inr (5, [(cr G 15), (cr G 16), cu, cz]), ca G 0 200, ca G 0 200, ca G 0 200]
abbrev xl_44 (G : bgGl) : List va_E := [.inr (0, [(cr G 1), (cr G 2), (cr G 4), cu, cu, cu, cz, cz, cz]), .inr (1, [(cn (-1)), (cn 0)]), .inr (2, [(cr G 3), (cn 0), (cn 0), (cn 8)]), ca G 0 50, .inr (3, [(cr G 1), (cr G 2), (cr G 5), (cr G 10), (cn 0), (cn 0)]), .inr (4, [(cr G 6), (cr G 7), (cr G 8), (cr G 9), (cn 0)]), ca G 0 20, ca G 0 20, ca G 0 20, ca G 0 20, .inr (5, [(cr G 11), (cr G 12), (cr G 13), (cn 0)]), ca G 0 200, ca G 0 200, ca G 0 200, .inr (5, [(cr G 15), (cr G 16), (cr G 17), cz]), ca G 0 200, ca G 0 200, ca G 0 200]
abbrev xl_45 (G : bgGl) : List va_E := [.inr (0, [(cr G 1), (cr G 2), (cr G 4), cu, cu, cu, cz, cz, cz]), .inr (1, [(cn (-1)), (cn 0)]), .inr (2, [(cr G 3), (cn 0), (cn 0), (cn 8)]), ca G 0 50, .inr (3, [(cr G 1), (cr G 2), (cr G 5), (cr G 10), (cn 0), (cn 0)]), .inr (4, [(cr G 6), (cr G 7), (cr G 8), (cr G 9), (cn 0)]), ca G 0 20, ca G 0 20, ca G 0 20, ca G 0 20, .inr (5, [(cr G 11), (cr G 12), (cr G 13), (cn 0)]), ca G 0 200, ca G 0 200, ca G 0 200, .inr (5, [(cr G 15), (cr G 16), (cr G 17), (cn 0)]), ca G 0 200, ca G 0 200, ca G 0 200]
abbrev xl_46 (G : bgGl) : List va_E := [.inr (0, [(cr G 1), (cr G 2), (cr G 4), (cr G 14), cu, cu, cz, cz, cz]), .inr (1, [(cn (-1)), (cn 0)]), .inr (2, [(cr G 3), (cn 0), (cn 0), (cn 8)]), ca G 0 50, .inr (3, [(cr G 1), (cr G 2), (cr G 5), (cr G 10), (cn 0), (cn 0)]), .inr (4, [(cr G 6), (cr G 7), (cr G 8), (cr G 9), (cn 0)]), ca G 0 20, ca G 0 20, ca G 0 20, ca G 0 20, .inr (5, [(cr G 11), (cr G 12), (cr G 13), (cn 0)]), ca G 0 200, ca G 0 200, ca G 0 200, .inr (5, [(cr G 15), (cr G 16), (cr G 17), (cn 0)]), ca G 0 200, ca G 0 200, ca G 0 200]
abbrev xl_47 (G : bgGl) : List va_E := [.inr (0, [(cr G 1), (cr G 2), (cr G 4), (cr G 14), cu, cu, cz, cz, cz]), .inr (1, [(cn (-1)), (cn 0)]), .inr (2, [(cr G 3), (cn 0), (cn 0), (cn 8)]), ca G 0 50, .inr (3, [(cr G 1), (cr G 2), (cr G 5), (cr G 10), (cn 0), (cn 0)]), .inr (4, [(cr G 6), (cr G 7), (cr G 8), (cr G 9), (cn 0)]), ca G 0 20, ca G 0 20, ca G 0 20, ca G 0 20, .inr (5, [(cr G 11), (cr G 12), (cr G 13), (cn 0)]), ca G 0 200, ca G 0 200, ca G 0 200, .inr (5, [(cr G 15), (cr G 16), (cr G 17), (cn 0)]), ca G 0 200, ca G 0 200, ca G 0 200, .inr (4, [cu, cu, cu, cu, cz])]
abbrev xl_48 (G : bgGl) : List va_E := [.inr (0, [(cr G 1), (cr G 2), (cr G 4), (cr G 14), cu, cu, cz, cz, cz]), .inr (1, [(cn (-1)), (cn 0)]), .inr (2, [(cr G 3), (cn 0), (cn 0), (cn 8)]), ca G 0 50, .inr (3, [(cr G 1), (cr G 2), (cr G 5), (cr G 10), (cn 0), (cn 0)]), .inr (4, [(cr G 6), (cr G 7), (cr G 8), (cr G 9), (cn 0)]), ca G 0 20, ca G 0 20, ca G 0 20, ca G 0 20, .inr (5, [(cr G 11), (cr G 12), (cr G 13), (cn 0)]), ca G 0 200, ca G 0 200, ca G 0 200, .inr (5, [(cr G 15), (cr G 16), (cr G 17), (cn 0)]), ca G 0 200, ca G 0 200, ca G 0 200, .inr (4, [cu, cu, cu, cu, cz]), ca G 0 20]
abbrev xl_49 (G : bgGl) : List va_E := [.inr (0, [(cr G 1), (cr G 2), (cr G 4), (cr G 14), cu, cu, cz, cz, cz]), .inr (1, [(cn (-1)), (cn 0)]), .inr (2, [(cr G 3), (cn 0), (cn 0), (cn 8)]), ca G 0 50, .inr (3, [(cr G 1), (cr G 2), (cr G 5), (cr G 10), (cn 0), (cn 0)]), .inr (4, [(cr G 6), (cr G 7), (cr G 8), (cr G 9), (cn 0)]), ca G 0 20, ca G 0 20, ca G 0 20, ca G 0 20, .inr (5, [(cr G 11), (cr G 12), (cr G 13), (cn 0)]), ca G 0 200, ca G 0 200, ca G 0 200, .inr (5, [(cr G 15), (cr G 16), (cr G 17), (cn 0)]), ca G 0 200, ca G 0 200, ca G 0 200, .inr (4, [(cr G 19), cu, cu, cu, cz]), ca G 0 20]
abbrev xl_50 (G : bgGl) : List va_E := [.inr (0, [(cr G 1), (cr G 2), (cr G 4), (cr G 14), cu, cu, cz, cz, cz]), .inr (1, [(cn (-1)), (cn 0)]), .inr (2, [(cr G 3), (cn 0), (cn 0), (cn 8)]), ca G 0 50, .inr (3, [(cr G 1), (cr G 2), (cr G 5), (cr G 10), (cn 0), (cn 0)]), .inr (4, [(cr G 6), (cr G 7), (cr G 8), (cr G 9), (cn 0)]), ca G 0 20, ca G 0 20, ca G 0 20, ca G 0 20, .inr (5, [(cr G 11), (cr G 12), (cr G 13), (cn 0)]), ca G 0 200, ca G 0 200, ca G 0 200, .inr (5, [(cr G 15), (cr G 16), (cr G 17), (cn 0)]), ca G 0 200, ca G 0 200, ca G 0 200, .inr (4, [(cr G 19), cu, cu, cu, cz]), ca G 0 20, ca G 0 20]
abbrev xl_51 (G : bgGl) : List va_E := [.inr (0, [(cr G 1), (cr G 2), (cr G 4), (cr G 14), cu, cu, cz, cz, cz]), .inr (1, [(cn (-1)), (cn 0)]), .inr (2, [(cr G 3), (cn 0), (cn 0), (cn 8)]), ca G 0 50, .inr (3, [(cr G 1), (cr G 2), (cr G 5), (cr G 10), (cn 0), (cn 0)]), .inr (4, [(cr G 6), (cr G 7), (cr G 8), (cr G 9), (cn 0)]), ca G 0 20, ca G 0 20, ca G 0 20, ca G 0 20, .inr (5, [(cr G 11), (cr G 12), (cr G 13), (cn 0)]), ca G 0 200, ca G 0 200, ca G 0 200, .inr (5, [(cr G 15), (cr G 16), (cr G 17), (cn 0)]), ca G 0 200, ca G 0 200, ca G 0 200, .inr (4, [(cr G 19), (cr G 20), cu, cu, cz]), ca G 0 20, ca G 0 20]
abbrev xl_52 (G : bgGl) : List va_E := [.inr (0, [(cr G 1), (cr G 2), (cr G 4), (cr G 14), cu, cu, cz, cz, cz]), .inr (1, [(cn (-1)), (cn 0)]), .inr (2, [(cr G 3), (cn 0), (cn 0), (cn 8)]), ca G 0 50, .inr (3, [(cr G 1), (cr G 2), (cr G 5), (cr G 10), (cn 0), (cn 0)]), .inr (4, [(cr G 6), (cr G 7), (cr G 8), (cr G 9), (cn 0)]), ca G 0 20, ca G 0 20, ca G 0 20, ca G 0 20, .inr (5, [(cr G 11), (cr G 12), (cr G 13), (cn 0)]), ca G 0 200, ca G 0 200, ca G 0 200, .inr (5, [(cr G 15), (cr G 16), (cr G 17), (cn 0)]), ca G 0 200, ca G 0 200, ca G 0 200, .inr (4, [(cr G 19), (cr G 20), cu, cu, cz]), ca G 0 20, ca G 0 20, ca G 0 20]
abbrev xl_53 (G : bgGl) : List va_E := [.inr (0, [(cr G 1), (cr G 2), (cr G 4), (cr G 14), cu, cu, cz, cz, cz]), .inr (1, [(cn (-1)), (cn 0)]), .inr (2, [(cr G 3), (cn 0), (cn 0), (cn 8)]), ca G 0 50, .inr (3, [(cr G 1), (cr G 2), (cr G 5), (cr G 10), (cn 0), (cn 0)]), .inr (4, [(cr G 6), (cr G 7), (cr G 8), (cr G 9), (cn 0)]), ca G 0 20, ca G 0 20, ca G 0 20, ca G 0 20, .inr (5, [(cr G 11), (cr G 12), (cr G 13), (cn 0)]), ca G 0 200, ca G 0 200, ca G 0 200, .inr (5, [(cr G 15), (cr G 16), (cr G 17), (cn 0)]), ca G 0 200, ca G 0 200, ca G 0 200, .inr (4, [(cr G 19), (cr G 20), (cr G 21), cu, cz]), ca G 0 20, ca G 0 20, ca G 0 20]
abbrev xl_54 (G : bgGl) : List va_E := [.inr (0, [(cr G 1), (cr G 2), (cr G 4), (cr G 14), cu, cu, cz, cz, cz]), .inr (1, [(cn (-1)), (cn 0)]), .inr (2, [(cr G 3), (cn 0), (cn 0), (cn 8)]), ca G 0 50, .inr (3, [(cr G 1), (cr G 2), (cr G 5), (cr G 10), (cn 0), (cn 0)]), .inr (4, [(cr G 6), (cr G 7), (cr G 8), (cr G 9), (cn 0)]), ca G 0 20, ca G 0 20, ca G 0 20, ca G 0 20, .inr (5, [(cr G 11), (cr G 12), (cr G 13), (cn 0)]), ca G 0 200, ca G 0 200, ca G 0 200, .inr (5, [(cr G 15), (cr G 16), (cr G 17), (cn 0)]), ca G 0 200, ca G 0 200, ca G 0 200, .inr (4, [(cr G 19), (cr G 20), (cr G 21), cu, cz]), ca G 0 20, ca G 0 20, ca G 0 20, ca G 0 20]
abbrev xl_55 (G : bgGl) : List va_E := [.inr (0, [(cr G 1), (cr G 2), (cr G 4), (cr G 14), cu, cu, cz, cz, cz]), .inr (1, [(cn (-1)), (cn 0)]), .inr (2, [(cr G 3), (cn 0), (cn 0), (cn 8)]), ca G 0 50, .inr (3, [(cr G 1), (cr G 2), (cr G 5), (cr G 10), (cn 0), (cn 0)]), .inr (4, [(cr G 6), (cr G 7), (cr G 8), (cr G 9), (cn 0)]), ca G 0 20, ca G 0 20, ca G 0 20, ca G 0 20, .inr (5, [(cr G 11), (cr G 12), (cr G 13), (cn 0)]), ca G 0 200, ca G 0 200, ca G 0 200, .inr (5, [(cr G 15), (cr G 16), (cr G 17), (cn 0)]), ca G 0 200, ca G 0 200, ca G 0 200, .inr (4, [(cr G 19), (cr G 20), (cr G 21), (cr G 22), cz]), ca G 0 20, ca G 0 20, ca G 0 20, ca G 0 20]
abbrev xl_56 (G : bgGl) : List va_E := [.inr (0, [(cr G 1), (cr G 2), (cr G 4), (cr G 14), cu, cu, cz, cz, cz]), .inr (1, [(cn (-1)), (cn 0)]), .inr (2, [(cr G 3), (cn 0), (cn 0), (cn 8)]), ca G 0 50, .inr (3, [(cr G 1), (cr G 2), (cr G 5), (cr G 10), (cn 0), (cn 0)]), .inr (4, [(cr G 6), (cr G 7), (cr G 8), (cr G 9), (cn 0)]), ca G 0 20, ca G 0 20, ca G 0 20, ca G 0 20, .inr (5, [(cr G 11), (cr G 12), (cr G 13), (cn 0)]), ca G 0 200, ca G 0 200, ca G 0 200, .inr (5, [(cr G 15), (cr G 16), (cr G 17), (cn 0)]), ca G 0 200, ca G 0 200, ca G 0 200, .inr (4, [(cr G 19), (cr G 20), (cr G 21), (cr G 22), (cn 0)]), ca G 0 20, ca G 0 20, ca G 0 20, ca G 0 20]
abbrev xl_57 (G : bgGl) : List va_E := [.inr (0, [(cr G 1), (cr G 2), (cr G 4), (cr G 14), (cr G 18), cu, cz, cz, cz]), .inr (1, [(cn (-1)), (cn 0)]), .inr (2, [(cr G 3), (cn 0), (cn 0), (cn 8)]), ca G 0 50, .inr (3, [(cr G 1), (cr G 2), (cr G 5), (cr G 10), (cn 0), (cn 0)]), .inr (4, [(cr G 6), (cr G 7), (cr G 8), (cr G 9), (cn 0)]), ca G 0 20, ca G 0 20, ca G 0 20, ca G 0 20, .inr (5, [(cr G 11), (cr G 12), (cr G 13), (cn 0)]), ca G 0 200, ca G 0 200, ca G 0 200, .inr (5, [(cr G 15), (cr G 16), (cr G 17), (cn 0)]), ca G 0 200, ca G 0 200, ca G 0 200, .inr (4, [(cr G 19), (cr G 20), (cr G 21), (cr G 22), (cn 0)]), ca G 0 20, ca G 0 20, ca G 0 20, ca G 0 20]
abbrev xl_58 (G : bgGl) : List va_E := [.inr (0, [(cr G 1), (cr G 2), (cr G 4), (cr G 14), (cr G 18), cu, cz, cz, cz]), .inr (1, [(cn (-1)), (cn 0)]), .inr (2, [(cr G 3), (cn 0), (cn 0), (cn 8)]), ca G 0 50, .inr (3, [(cr G 1), (cr G 2), (cr G 5), (cr G 10), (cn 0), (cn 0)]), .inr (4, [(cr G 6), (cr G 7), (cr G 8), (cr G 9), (cn 0)]), ca G 0 20, ca G 0 20, ca G 0 20, ca G 0 20, .inr (5, [(cr G 11), (cr G 12), (cr G 13), (cn 0)]), ca G 0 200, ca G 0 200, ca G 0 200, .inr (5, [(cr G 15), (cr G 16), (cr G 17), (cn 0)]), ca G 0 200, ca G 0 200, ca G 0 200, .inr (4, [(cr G 19), (cr G 20), (cr G 21), (cr G 22), (cn 0)]), ca G 0 20, ca G 0 20, ca G 0 20, ca G 0 20, .inr (6, [cu, cu, cu, cz])]
abbrev xl_59 (G : bgGl) : List va_E := [.inr (0, [(cr G 1), (cr G 2), (cr G 4), (cr G 14), (cr G 18), cu, cz, cz, cz]), .inr (1, [(cn (-1)), (cn 0)]), .inr (2, [(cr G 3), (cn 0), (cn 0), (cn 8)]), ca G 0 50, .inr (3, [(cr G 1), (cr G 2), (cr G 5), (cr G 10), (cn 0), (cn 0)]), .inr (4, [(cr G 6), (cr G 7), (cr G 8), (cr G 9), (cn 0)]), ca G 0 20, ca G 0 20, ca G 0 20, ca G 0 20, .inr (5, [(cr G 11), (cr G 12), (cr G 13), (cn 0)]), ca G 0 200, ca G 0 200, ca G 0 200, .inr (5, [(cr G 15), (cr G 16), (cr G 17), (cn 0)]), ca G 0 200, ca G 0 200, ca G 0 200, .inr (4, [(cr G 19), (cr G 20), (cr G 21), (cr G 22), (cn 0)]), ca G 0 20, ca G 0 20, ca G 0 20, ca G 0 20, .inr (6, [cu, cu, cu, cz]), ca G 0 64]
abbrev xl_60 (G : bgGl) : List va_E := [.inr (0, [(cr G 1), (cr G 2), (cr G 4), (cr G 14), (cr G 18), cu, cz, cz, cz]), .inr (1, [(cn (-1)), (cn 0)]), .inr (2, [(cr G 3), (cn 0), (cn 0), (cn 8)]), ca G 0 50, .inr (3, [(cr G 1), (cr G 2), (cr G 5), (cr G 10), (cn 0), (cn 0)]), .inr (4, [(cr G 6), (cr G 7), (cr G 8), (cr G 9), (cn 0)]), ca G 0 20, ca G 0 20, ca G 0 20, ca G 0 20, .inr (5, [(cr G 11), (cr G 12), (cr G 13), (cn 0)]), ca G 0 200, ca G 0 200, ca G 0 200, .inr (5, [(cr G 15), (cr G 16), (cr G 17), (cn 0)]), ca G 0 200, ca G 0 200, ca G 0 200, .inr (4, [(cr G 19), (cr G 20), (cr G 21), (cr G 22), (cn 0)]), ca G 0 20, ca G 0 20, ca G 0 20, ca G 0 20, .inr (6, [(cr G 24), cu, cu, cz]), ca G 0 64]
abbrev xl_61 (G : bgGl) : List va_E := [.inr (0, [(cr G 1), (cr G 2), (cr G 4), (cr G 14), (cr G 18), cu, cz, cz, cz]), .inr (1, [(cn (-1)), (cn 0)]), .inr (2, [(cr G 3), (cn 0), (cn 0), (cn 8)]), ca G 0 50, .inr (3, [(cr G 1), (cr G 2), (cr G 5), (cr G 10), (cn 0), (cn 0)]), .inr (4, [(cr G 6), (cr G 7), (cr G 8), (cr G 9), (cn 0)]), ca G 0 20, ca G 0 20, ca G 0 20, ca G 0 20, .inr (5, [(cr G 11), (cr G 12), (cr G 13), (cn 0)]), ca G 0 200, ca G 0 200, ca G 0 200, .inr (5, [(cr G 15), (cr G 16), (cr G 17), (cn 0)]), ca G 0 200, ca G 0 200, ca G 0 200, .inr (4, [(cr G 19), (cr G 20), (cr G 21), (cr G 22), (cn 0)]), ca G 0 20, ca G 0 20, ca G 0 20, ca G 0 20, .inr (6, [(cr G 24), cu, cu, cz]), ca G 0 64, ca G 0 64]
abbrev xl_62 (G : bgGl) : List va_E := [.inr (0, [(cr G 1), (cr G 2), (cr G 4), (cr G 14), (cr G 18), cu, cz, cz, cz]), .inr (1, [(cn (-1)), (cn 0)]), .inr (2, [(cr G 3), (cn 0), (cn 0), (cn 8)]), ca G 0 50, .inr (3, [(cr G 1), (cr G 2), (cr G 5), (cr G 10), (cn 0), (cn 0)]), .inr (4, [(cr G 6), (cr G 7), (cr G 8), (cr G 9), (cn 0)]), ca G 0 20, ca G 0 20, ca G 0 20, ca G 0 20, .inr (5, [(cr G 11), (cr G 12), (cr G 13), (cn 0)]), ca G 0 200, ca G 0 200, ca G 0 200, .inr (5, [(cr G 15), (cr G 16), (cr G 17), (cn 0)]), ca G 0 200, ca G 0 200, ca G 0 200, .inr (4, [(cr G 19), (cr G 20), (cr G 21), (cr G 22), (cn 0)]), ca G 0 20, ca G 0 20, ca G 0 20, ca G 0 20, .inr (6, [(cr G 24), (cr G 25), cu, cz]), ca G 0 64, ca G 0 64]
abbrev xl_63 (G : bgGl) : List va_E := [.inr (0, [(cr G 1), (cr G 2), (cr G 4), (cr G 14), (cr G 18), cu, cz, cz, cz]), .inr (1, [(cn (-1)), (cn 0)]), .inr (2, [(cr G 3), (cn 0), (cn 0), (cn 8)]), ca G 0 50, .inr (3, [(cr G 1), (cr G 2), (cr G 5), (cr G 10), (cn 0), (cn 0)]), .inr (4, [(cr G 6), (cr G 7), (cr G 8), (cr G 9), (cn 0)]), ca G 0 20, ca G 0 20, ca G 0 20, ca G 0 20, .inr (5, [(cr G 11), (cr G 12), (cr G 13), (cn 0)]), ca G 0 200, ca G 0 200, ca G 0 200, .inr (5, [(cr G 15), (cr G 16), (cr G 17), (cn 0)]), ca G 0 200, ca G 0 200, ca G 0 200, .inr (4, [(cr G 19), (cr G 20), (cr G 21), (cr G 22), (cn 0)]), ca G 0 20, ca G 0 20, ca G 0 20, ca G 0 20, .inr (6, [(cr G 24), (cr G 25), cu, cz]), ca G 0 64, ca G 0 64, ca G 0 64]
abbrev xl_64 (G : bgGl) : List va_E := [.inr (0, [(cr G 1), (cr G 2), (cr G 4), (cr G 14), (cr G 18), cu, cz, cz, cz]), .inr (1, [(cn (-1)), (cn 0)]), .inr (2, [(cr G 3), (cn 0), (cn 0), (cn 8)]), ca G 0 50, .inr (3, [(cr G 1), (cr G 2), (cr G 5), (cr G 10), (cn 0), (cn 0)]), .inr (4, [(cr G 6), (cr G 7), (cr G 8), (cr G 9), (cn 0)]), ca G 0 20, ca G 0 20, ca G 0 20, ca G 0 20, .inr (5, [(cr G 11), (cr G 12), (cr G 13), (cn 0)]), ca G 0 200, ca G 0 200, ca G 0 200, .inr (5, [(cr G 15), (cr G 16), (cr G 17), (cn 0)]), ca G 0 200, ca G 0 200, ca G 0 200, .inr (4, [(cr G 19), (cr G 20), (cr G 21), (cr G 22), (cn 0)]), ca G 0 20, ca G 0 20, ca G 0 20, ca G 0 20, .inr (6, [(cr G 24), (cr G 25), (cr G 26), cz]), ca G 0 64, ca G 0 64, ca G 0 64]
abbrev xl_65 (G : bgGl) : List va_E := [.inr (0, [(cr G 1), (cr G 2), (cr G 4), (cr G 14), (cr G 18), cu, cz, cz, cz]), .inr (1, [(cn (-1)), (cn 0)]), .inr (2, [(cr G 3), (cn 0), (cn 0), (cn 8)]), ca G 0 50, .inr (3, [(cr G 1), (cr G 2), (cr G 5), (cr G 10), (cn 0), (cn 0)]), .inr (4, [(cr G 6), (cr G 7), (cr G 8), (cr G 9), (cn 0)]), ca G 0 20, ca G 0 20, ca G 0 20, ca G 0 20, .inr (5, [(cr G 11), (cr G 12), (cr G 13), (cn 0)]), ca G 0 200, ca G 0 200, ca G 0 200, .inr (5, [(cr G 15), (cr G 16), (cr G 17), (cn 0)]), ca G 0 200, ca G 0 200, ca G 0 200, .inr (4, [(cr G 19), (cr G 20), (cr G 21), (cr G 22), (cn 0)]), ca G 0 20, ca G 0 20, ca G 0 20, ca G 0 20, .inr (6, [(cr G 24), (cr G 25), (cr G 26), (cn 0)]), ca G 0 64, ca G 0 64, ca G 0 64]
abbrev xl_66 (G : bgGl) : List va_E := [.inr (0, [(cr G 1), (cr G 2), (cr G 4), (cr G 14), (cr G 18), (cr G 23), cz, cz, cz]), .inr (1, [(cn (-1)), (cn 0)]), .inr (2, [(cr G 3), (cn 0), (cn 0), (cn 8)]), ca G 0 50, .inr (3, [(cr G 1), (cr G 2), (cr G 5), (cr G 10), (cn 0), (cn 0)]), .inr (4, [(cr G 6), (cr G 7), (cr G 8), (cr G 9), (cn 0)]), ca G 0 20, ca G 0 20, ca G 0 20, ca G 0 20, .inr (5, [(cr G 11), (cr G 12), (cr G 13), (cn 0)]), ca G 0 200, ca G 0 200, ca G 0 200, .inr (5, [(cr G 15), (cr G 16), (cr G 17), (cn 0)]), ca G 0 200, ca G 0 200, ca G 0 200, .inr (4, [(cr G 19), (cr G 20), (cr G 21), (cr G 22), (cn 0)]), ca G 0 20, ca G 0 20, ca G 0 20, ca G 0 20, .inr (6, [(cr G 24), (cr G 25), (cr G 26), (cn 0)]), ca G 0 64, ca G 0 64, ca G 0 64]
abbrev xl_67 (G : bgGl) : List va_E := [.inr (0, [(cr G 1), (cr G 2), (cr G 4), (cr G 14), (cr G 18), (cr G 23), (cn 0), cz, cz]), .inr (1, [(cn (-1)), (cn 0)]), .inr (2, [(cr G 3), (cn 0), (cn 0), (cn 8)]), ca G 0 50, .inr (3, [(cr G 1), (cr G 2), (cr G 5), (cr G 10), (cn 0), (cn 0)]), .inr (4, [(cr G 6), (cr G 7), (cr G 8), (cr G 9), (cn 0)]), ca G 0 20, ca G 0 20, ca G 0 20, ca G 0 20, .inr (5, [(cr G 11), (cr G 12), (cr G 13), (cn 0)]), ca G 0 200, ca G 0 200, ca G 0 200, .inr (5, [(cr G 15), (cr G 16), (cr G 17), (cn 0)]), ca G 0 200, ca G 0 200, ca G 0 200, .inr (4, [(cr G 19), (cr G 20), (cr G 21), (cr G 22), (cn 0)]), ca G 0 20, ca G 0 20, ca G 0 20, ca G 0 20, .inr (6, [(cr G 24), (cr G 25), (cr G 26), (cn 0)]), ca G 0 64, ca G 0 64, ca G 0 64]
abbrev xl_68 (G : bgGl) : List va_E := [.inr (0, [(cr G 1), (cr G 2), (cr G 4), (cr G 14), (cr G 18), (cr G 23), (cn 0), (cn 0), cz]), .inr (1, [(cn (-1)), (cn 0)]), .inr (2, [(cr G 3), (cn 0), (cn 0), (cn 8)]), ca G 0 50, .inr (3, [(cr G 1), (cr G 2), (cr G 5), (cr G 10), (cn 0), (cn 0)]), .inr (4, [(cr G 6), (cr G 7), (cr G 8), (cr G 9), (cn 0)]), ca G 0 20, ca G 0 20, ca G 0 20, ca G 0 20, .inr (5, [(cr G 11), (cr G 12), (cr G 13), (cn 0)]), ca G 0 200, ca G 0 200, ca G 0 200, .inr (5, [(cr G 15), (cr G 16), (cr G 17), (cn 0)]), ca G 0 200, ca G 0 200, ca G 0 200, .inr (4, [(cr G 19), (cr G 20), (cr G 21), (cr G 22), (cn 0)]), ca G 0 20, ca G 0 20, ca G 0 20, ca G 0 20, .inr (6, [(cr G 24), (cr G 25), (cr G 26), (cn 0)]), ca G 0 64, ca G 0 64, ca G 0 64]
abbrev xl_69 (G : bgGl) : List va_E := [.inr (0, [(cr G 1), (cr G 2), (cr G 4), (cr G 14), (cr G 18), (cr G 23), (cn 0), (cn 0), (cn 0)]), .inr (1, [(cn (-1)), (cn 0)]), .inr (2, [(cr G 3), (cn 0), (cn 0), (cn 8)]), ca G 0 50, .inr (3, [(cr G 1), (cr G 2), (cr G 5), (cr G 10), (cn 0), (cn 0)]), .inr (4, [(cr G 6), (cr G 7), (cr G 8), (cr G 9), (cn 0)]), ca G 0 20, ca G 0 20, ca G 0 20, ca G 0 20, .inr (5, [(cr G 11), (cr G 12), (cr G 13), (cn 0)]), ca G 0 200, ca G 0 200, ca G 0 200, .inr (5, [(cr G 15), (cr G 16), (cr G 17), (cn 0)]), ca G 0 200, ca G 0 200, ca G 0 200, .inr (4, [(cr G 19), (cr G 20), (cr G 21), (cr G 22), (cn 0)]), ca G 0 20, ca G 0 20, ca G 0 20, ca G 0 20, .inr (6, [(cr G 24), (cr G 25), (cr G 26), (cn 0)]), ca G 0 64, ca G 0 64, ca G 0 64]
abbrev xl_70 (G : bgGl) : List va_E := [.inr (0, [(cr G 1), (cr G 2), (cr G 4), (cr G 14), (cr G 18), (cr G 23), (cn 0), (cn 0), (cn 0)]), .inr (1, [(cn (-1)), (cn 0)]), .inr (2, [(cr G 3), (cn 0), (cn 0), (cn 8)]), ca G 0 50, .inr (3, [(cr G 1), (cr G 2), (cr G 5), (cr G 10), (cn 0), (cn 0)]), .inr (4, [(cr G 6), (cr G 7), (cr G 8), (cr G 9), (cn 0)]), ca G 0 20, ca G 0 20, ca G 0 20, ca G 0 20, .inr (5, [(cr G 11), (cr G 12), (cr G 13), (cn 0)]), ca G 0 200, ca G 0 200, ca G 0 200, .inr (5, [(cr G 15), (cr G 16), (cr G 17), (cn 0)]), ca G 0 200, ca G 0 200, ca G 0 200, .inr (4, [(cr G 19), (cr G 20), (cr G 21), (cr G 22), (cn 0)]), ca G 0 20, ca G 0 20, ca G 0 20, ca G 0 20, .inr (6, [(cr G 24), (cr G 25), (cr G 26), (cn 0)]), ca G 0 64, ca G 0 64, ca G 0 64, .inr (7, [cz, cu, cu, cu, cz, cz, cz, cz, cu, cu, cz, cz, cz, cz, cz, cz, cu, cz, cz, cz, cz, cu, cu])]
abbrev xl_71 (G : bgGl) : List va_E := [.inr (0, [(cr G 1), (cr G 2), (cr G 4), (cr G 14), (cr G 18), (cr G 23), (cn 0), (cn 0), (cn 0)]), .inr (1, [(cn (-1)), (cn 0)]), .inr (2, [(cr G 3), (cn 0), (cn 0), (cn 8)]), ca G 0 50, .inr (3, [(cr G 1), (cr G 2), (cr G 5), (cr G 10), (cn 0), (cn 0)]), .inr (4, [(cr G 6), (cr G 7), (cr G 8), (cr G 9), (cn 0)]), ca G 0 20, ca G 0 20, ca G 0 20, ca G 0 20, .inr (5, [(cr G 11), (cr G 12), (cr G 13), (cn 0)]), ca G 0 200, ca G 0 200, ca G 0 200, .inr (5, [(cr G 15), (cr G 16), (cr G 17), (cn 0)]), ca G 0 200, ca G 0 200, ca G 0 200, .inr (4, [(cr G 19), (cr G 20), (cr G 21), (cr G 22), (cn 0)]), ca G 0 20, ca G 0 20, ca G 0 20, ca G 0 20, .inr (6, [(cr G 24), (cr G 25), (cr G 26), (cn 0)]), ca G 0 64, ca G 0 64, ca G 0 64, .inr (7, [cz, cu, cu, cu, cz, cz, cz, cz, cu, cu, cz, cz, cz, cz, cz, cz, cu, cz, cz, cz, cz, cu, cu]), ca G 0 400]
abbrev xl_72 (G : bgGl) : List va_E := [.inr (0, [(cr G 1), (cr G 2), (cr G 4), (cr G 14), (cr G 18), (cr G 23), (cn 0), (cn 0), (cn 0)]), .inr (1, [(cn (-1)), (cn 0)]), .inr (2, [(cr G 3), (cn 0), (cn 0), (cn 8)]), ca G 0 50, .inr (3, [(cr G 1), (cr G 2), (cr G 5), (cr G 10), (cn 0), (cn 0)]), .inr (4, [(cr G 6), (cr G 7), (cr G 8), (cr G 9), (cn 0)]), ca G 0 20, ca G 0 20, ca G 0 20, ca G 0 20, .inr (5, [(cr G 11), (cr G 12), (cr G 13), (cn 0)]), ca G 0 200, ca G 0 200, ca G 0 200, .inr (5, [(cr G 15), (cr G 16), (cr G 17), (cn 0)]), ca G 0 200, ca G 0 200, ca G 0 200, .inr (4, [(cr G 19), (cr G 20), (cr G 21), (cr G 22), (cn 0)]), ca G 0 20, ca G 0 20, ca G 0 20, ca G 0 20, .inr (6, [(cr G 24), (cr G 25), (cr G 26), (cn 0)]), ca G 0 64, ca G 0 64, ca G 0 64, .inr (7, [cz, (cr G 28), cu, cu, cz, cz, cz, cz, cu, cu, cz, cz, cz, cz, cz, cz, cu, cz, cz, cz, cz, cu, cu]), ca G 0 400]
abbrev xl_73 (G : bgGl) : List va_E := [.inr (0, [(cr G 1), (cr G 2), (cr G 4), (cr G 14), (cr G 18), (cr G 23), (cn 0), (cn 0), (cn 0)]), .inr (1, [(cn (-1)), (cn 0)]), .inr (2, [(cr G 3), (cn 0), (cn 0), (cn 8)]), ca G 0 50, .inr (3, [(cr G 1), (cr G 2), (cr G 5), (cr G 10), (cn 0), (cn 0)]), .inr (4, [(cr G 6), (cr G 7), (cr G 8), (cr G 9), (cn 0)]), ca G 0 20, ca G 0 20, ca G 0 20, ca G 0 20, .inr (5, [(cr G 11), (cr G 12), (cr G 13), (cn 0)]), ca G 0 200, ca G 0 200, ca G 0 200, .inr (5, [(cr G 15), (cr G 16), (cr G 17), (cn 0)]), ca G 0 200, ca G 0 200, ca G 0 200, .inr (4, [(cr G 19), (cr G 20), (cr G 21), (cr G 22), (cn 0)]), ca G 0 20, ca G 0 20, ca G 0 20, ca G 0 20, .inr (6, [(cr G 24), (cr G 25), (cr G 26), (cn 0)]), ca G 0 64, ca G 0 64, ca G 0 64, .inr (7, [cz, (cr G 28), cu, cu, cz, cz, cz, cz, cu, cu, cz, cz, cz, cz, cz, cz, cu, cz, cz, cz, cz, cu, cu]), ca G 0 400, ca G 0 400]
abbrev xl_74 (G : bgGl) : List va_E := [.inr (0, [(cr G 1), (cr G 2), (cr G 4), (cr G 14), (cr G 18), (cr G 23), (cn 0), (cn 0), (cn 0)]), .inr (1, [(cn (-1)), (cn 0)]), .inr (2, [(cr G 3), (cn 0), (cn 0), (cn 8)]), ca G 0 50, .inr (3, [(cr G 1), (cr G 2), (cr G 5), (cr G 10), (cn 0), (cn 0)]), .inr (4, [(cr G 6), (cr G 7), (cr G 8), (cr G 9), (cn 0)]), ca G 0 20, ca G 0 20, ca G 0 20, ca G 0 20, .inr (5, [(cr G 11), (cr G 12), (cr G 13), (cn 0)]), ca G 0 200, ca G 0 200, ca G 0 200, .inr (5, [(cr G 15), (cr G 16), (cr G 17), (cn 0)]), ca G 0 200, ca G 0 200, ca G 0 200, .inr (4, [(cr G 19), (cr G 20), (cr G 21), (cr G 22), (cn 0)]), ca G 0 20, ca G 0 20, ca G 0 20, ca G 0 20, .inr (6, [(cr G 24), (cr G 25), (cr G 26), (cn 0)]), ca G 0 64, ca G 0 64, ca G 0 64, .inr (7, [cz, (cr G 28), (cr G 29), cu, cz, cz, cz, cz, cu, cu, cz, cz, cz, cz, cz, cz, cu, cz, cz, cz, cz, cu, cu]), ca G 0 400, ca G 0 400]
abbrev xl_75 (G : bgGl) : List va_E := [.inr (0, [(cr G 1), (cr G 2), (cr G 4), (cr G 14), (cr G 18), (cr G 23), (cn 0), (cn 0), (cn 0)]), .inr (1, [(cn (-1)), (cn 0)]), .inr (2, [(cr G 3), (cn 0), (cn 0), (cn 8)]), ca G 0 50, .inr (3, [(cr G 1), (cr G 2), (cr G 5), (cr G 10), (cn 0), (cn 0)]), .inr (4, [(cr G 6), (cr G 7), (cr G 8), (cr G 9), (cn 0)]), ca G 0 20, ca G 0 20, ca G 0 20, ca G 0 20, .inr (5, [(cr G 11), (cr G 12), (cr G 13), (cn 0)]), ca G 0 200, ca G 0 200, ca G 0 200, .inr (5, [(cr G 15), (cr G 16), (cr G 17), (cn 0)]), ca G 0 200, ca G 0 200, ca G 0 200, .inr (4, [(cr G 19), (cr G 20), (cr G 21), (cr G 22), (cn 0)]), ca G 0 20, ca G 0 20, ca G 0 20, ca G 0 20, .inr (6, [(cr G 24), (cr G 25), (cr G 26), (cn 0)]), ca G 0 64, ca G 0 64, ca G 0 64, .inr (7, [cz, (cr G 28), (cr G 29), cu, cz, cz, cz, cz, cu, cu, cz, cz, cz, cz, cz, cz, cu, cz, cz, cz, cz, cu, cu]), ca G 0 400, ca G 0 400, ca G 0 400]
abbrev xl_76 (G : bgGl) : List va_E := [.inr (0, [(cr G 1), (cr G 2), (cr G 4), (cr G 14), (cr G 18), (cr G 23), (cn 0), (cn 0), (cn 0)]), .inr (1, [(cn (-1)), (cn 0)]), .inr (2, [(cr G 3), (cn 0), (cn 0), (cn 8)]), ca G 0 50, .inr (3, [(cr G 1), (cr G 2), (cr G 5), (cr G 10), (cn 0), (cn 0)]), .inr (4, [(cr G 6), (cr G 7), (cr G 8), (cr G 9), (cn 0)]), ca G 0 20, ca G 0 20, ca G 0 20, ca G 0 20, .inr (5, [(cr G 11), (cr G 12), (cr G 13), (cn 0)]), ca G 0 200, ca G 0 200, ca G 0 200, .inr (5, [(cr G 15), (cr G 16), (cr G 17), (cn 0)]), ca G 0 200, ca G 0 200, ca G 0 200, .inr (4, [(cr G 19), (cr G 20), (cr G 21), (cr G 22), (cn 0)]), ca G 0 20, ca G 0 20, ca G 0 20, ca G 0 20, .inr (6, [(cr G 24), (cr G 25), (cr G 26), (cn 0)]), ca G 0 64, ca G 0 64, ca G 0 64, .inr (7, [cz, (cr G 28), (cr G 29), (cr G 30), cz, cz, cz, cz, cu, cu, cz, cz, cz, cz, cz, cz, cu, cz, cz, cz, cz, cu, cu]), ca G 0 400, ca G 0 400, ca G 0 400]
abbrev xl_77 (G : bgGl) : List va_E := [.inr (0, [(cr G 1), (cr G 2), (cr G 4), (cr G 14), (cr G 18), (cr G 23), (cn 0), (cn 0), (cn 0)]), .inr (1, [(cn (-1)), (cn 0)]), .inr (2, [(cr G 3), (cn 0), (cn 0), (cn 8)]), ca G 0 50, .inr (3, [(cr G 1), (cr G 2), (cr G 5), (cr G 10), (cn 0), (cn 0)]), .inr (4, [(cr G 6), (cr G 7), (cr G 8), (cr G 9), (cn 0)]), ca G 0 20, ca G 0 20, ca G 0 20, ca G 0 20, .inr (5, [(cr G 11), (cr G 12), (cr G 13), (cn 0)]), ca G 0 200, ca G 0 200, ca G 0 200, .inr (5, [(cr G 15), (cr G 16), (cr G 17), (cn 0)]), ca G 0 200, ca G 0 200, ca G 0 200, .inr (4, [(cr G 19), (cr G 20), (cr G 21), (cr G 22), (cn 0)]), ca G 0 20, ca G 0 20, ca G 0 20, ca G 0 20, .inr (6, [(cr G 24), (cr G 25), (cr G 26), (cn 0)]), ca G 0 64, ca G 0 64, ca G 0 64, .inr (7, [cz, (cr G 28), (cr G 29), (cr G 30), cz, (cn 1), cz, cz, cu, cu, cz, cz, cz, cz, cz, cz, cu, cz, cz, cz, cz, cu, cu]), ca G 0 400, ca G 0 400, ca G 0 400]
abbrev xl_78 (G : bgGl) : List va_E := [.inr (0, [(cr G 1), (cr G 2), (cr G 4), (cr G 14), (cr G 18), (cr G 23), (cn 0), (cn 0), (cn 0)]), .inr (1, [(cn (-1)), (cn 0)]), .inr (2, [(cr G 3), (cn 0), (cn 0), (cn 8)]), ca G 0 50, .inr (3, [(cr G 1), (cr G 2), (cr G 5), (cr G 10), (cn 0), (cn 0)]), .inr (4, [(cr G 6), (cr G 7), (cr G 8), (cr G 9), (cn 0)]), ca G 0 20, ca G 0 20, ca G 0 20, ca G 0 20, .inr (5, [(cr G 11), (cr G 12), (cr G 13), (cn 0)]), ca G 0 200, ca G 0 200, ca G 0 200, .inr (5, [(cr G 15), (cr G 16), (cr G 17), (cn 0)]), ca G 0 200, ca G 0 200, ca G 0 200, .inr (4, [(cr G 19), (cr G 20), (cr G 21), (cr G 22), (cn 0)]), ca G 0 20, ca G 0 20, ca G 0 20, ca G 0 20, .inr (6, [(cr G 24), (cr G 25), (cr G 26), (cn 0)]), ca G 0 64, ca G 0 64, ca G 0 64, .inr (7, [cz, (cr G 28), (cr G 29), (cr G 30), cz, (cn 1), cz, cz, cu, cu, cz, cz, cz, cz, cz, cz, cu, cz, cz, cz, cz, cu, cu]), ca G 0 400, ca G 0 400, ca G 0 400, ca G 1 50]
abbrev xl_79 (G : bgGl) : List va_E := [.inr (0, [(cr G 1), (cr G 2), (cr G 4), (cr G 14), (cr G 18), (cr G 23), (cn 0), (cn 0), (cn 0)]), .inr (1, [(cn (-1)), (cn 0)]), .inr (2, [(cr G 3), (cn 0), (cn 0), (cn 8)]), ca G 0 50, .inr (3, [(cr G 1), (cr G 2), (cr G 5), (cr G 10), (cn 0), (cn 0)]), .inr (4, [(cr G 6), (cr G 7), (cr G 8), (cr G 9), (cn 0)]), ca G 0 20, ca G 0 20, ca G 0 20, ca G 0 20, .inr (5, [(cr G 11), (cr G 12), (cr G 13), (cn 0)]), ca G 0 200, ca G 0 200, ca G 0 200, .inr (5, [(cr G 15), (cr G 16), (cr G 17), (cn 0)]), ca G 0 200, ca G 0 200, ca G 0 200, .inr (4, [(cr G 19), (cr G 20), (cr G 21), (cr G 22), (cn 0)]), ca G 0 20, ca G 0 20, ca G 0 20, ca G 0 20, .inr (6, [(cr G 24), (cr G 25), (cr G 26), (cn 0)]), ca G 0 64, ca G 0 64, ca G 0 64, .inr (7, [cz, (cr G 28), (cr G 29), (cr G 30), cz, (cn 1), cz, cz, (cr G 31), cu, cz, cz, cz, cz, cz, cz, cu, cz, cz, cz, cz, cu, cu]), ca G 0 400, ca G 0 400, ca G 0 400, ca G 1 50]
abbrev xl_80 (G : bgGl) : List va_E := [.inr (0, [(cr G 1), (cr G 2), (cr G 4), (cr G 14), (cr G 18), (cr G 23), (cn 0), (cn 0), (cn 0)]), .inr (1, [(cn (-1)), (cn 0)]), .inr (2, [(cr G 3), (cn 0), (cn 0), (cn 8)]), ca G 0 50, .inr (3, [(cr G 1), (cr G 2), (cr G 5), (cr G 10), (cn 0), (cn 0)]), .inr (4, [(cr G 6), (cr G 7), (cr G 8), (cr G 9), (cn 0)]), ca G 0 20, ca G 0 20, ca G 0 20, ca G 0 20, .inr (5, [(cr G 11), (cr G 12), (cr G 13), (cn 0)]), ca G 0 200, ca G 0 200, ca G 0 200, .inr (5, [(cr G 15), (cr G 16), (cr G 17), (cn 0)]), ca G 0 200, ca G 0 200, ca G 0 200, .inr (4, [(cr G 19), (cr G 20), (cr G 21), (cr G 22), (cn 0)]), ca G 0 20, ca G 0 20, ca G 0 20, ca G 0 20, .inr (6, [(cr G 24), (cr G 25), (cr G 26), (cn 0)]), ca G 0 64, ca G 0 64, ca G 0 64, .inr (7, [cz, (cr G 28), (cr G 29), (cr G 30), cz, (cn 1), cz, cz, (cr G 31), cu, cz, cz, cz, cz, cz, cz, cu, cz, cz, cz, cz, cu, cu]), ca G 0 400, ca G 0 400, ca G 0 400, ca G 1 50, ca G 1 50]
abbrev xl_81 (G : bgGl) : List va_E := [.inr (0, [(cr G 1), (cr G 2), (cr G 4), (cr G 14), (cr G 18), (cr G 23), (cn 0), (cn 0), (cn 0)]), .inr (1, [(cn (-1)), (cn 0)]), .inr (2, [(cr G 3), (cn 0), (cn 0), (cn 8)]), ca G 0 50, .inr (3, [(cr G 1), (cr G 2), (cr G 5), (cr G 10), (cn 0), (cn 0)]), .inr (4, [(cr G 6), (cr G 7), (cr G 8), (cr G 9), (cn 0)]), ca G 0 20, ca G 0 20, ca G 0 20, ca G 0 20, .inr (5, [(cr G 11), (cr G 12), (cr G 13), (cn 0)]), ca G 0 200, ca G 0 200, ca G 0 200, .inr (5, [(cr G 15), (cr G 16), (cr G 17), (cn 0)]), ca G 0 200, ca G 0 200, ca G 0 200, .inr (4, [(cr G 19), (cr G 20), (cr G 21), (cr G 22), (cn 0)]), ca G 0 20, ca G 0 20, ca G 0 20, ca G 0 20, .inr (6, [(cr G 24), (cr G 25), (cr G 26), (cn 0)]), ca G 0 64, ca G 0 64, ca G 0 64, .inr (7, [cz, (cr G 28), (cr G 29), (cr G 30), cz, (cn 1), cz, cz, (cr G 31), (cr G 32), cz, cz, cz, cz, cz, cz, cu, cz, cz, cz, cz, cu, cu]), ca G 0 400, ca G 0 400, ca G 0 400, ca G 1 50, ca G 1 50]
abbrev xl_82 (G : bgGl) : List va_E := [.inr (0, [(cr G 1), (cr G 2), (cr G 4), (cr G 14), (cr G 18), (cr G 23), (cn 0), (cn 0), (cn 0)]), .inr (1, [(cn (-1)), (cn 0)]), .inr (2, [(cr G 3), (cn 0), (cn 0), (cn 8)]), ca G 0 50, .inr (3, [(cr G 1), (cr G 2), (cr G 5), (cr G 10), (cn 0), (cn 0)]), .inr (4, [(cr G 6), (cr G 7), (cr G 8), (cr G 9), (cn 0)]), ca G 0 20, ca G 0 20, ca G 0 20, ca G 0 20, .inr (5, [(cr G 11), (cr G 12), (cr G 13), (cn 0)]), ca G 0 200, ca G 0 200, ca G 0 200, .inr (5, [(cr G 15), (cr G 16), (cr G 17), (cn 0)]), ca G 0 200, ca G 0 200, ca G 0 200, .inr (4, [(cr G 19), (cr G 20), (cr G 21), (cr G 22), (cn 0)]), ca G 0 20, ca G 0 20, ca G 0 20, ca G 0 20, .inr (6, [(cr G 24), (cr G 25), (cr G 26), (cn 0)]), ca G 0 64, ca G 0 64, ca G 0 64, .inr (7, [cz, (cr G 28), (cr G 29), (cr G 30), cz, (cn 1), cz, cz, (cr G 31), (cr G 32), cz, cz, cz, (cn (-1)), cz, cz, cu, cz, cz, cz, cz, cu, cu]), ca G 0 400, ca G 0 400, ca G 0 400, ca G 1 50, ca G 1 50]
abbrev xl_83 (G : bgGl) : List va_E := [.inr (0, [(cr G 1), (cr G 2), (cr G 4), (cr G 14), (cr G 18), (cr G 23), (cn 0), (cn 0), (cn 0)]), .inr (1, [(cn (-1)), (cn 0)]), .inr (2, [(cr G 3), (cn 0), (cn 0), (cn 8)]), ca G 0 50, .inr (3, [(cr G 1), (cr G 2), (cr G 5), (cr G 10), (cn 0), (cn 0)]), .inr (4, [(cr G 6), (cr G 7), (cr G 8), (cr G 9), (cn 0)]), ca G 0 20, ca G 0 20, ca G 0 20, ca G 0 20, .inr (5, [(cr G 11), (cr G 12), (cr G 13), (cn 0)]), ca G 0 200, ca G 0 200, ca G 0 200, .inr (5, [(cr G 15), (cr G 16), (cr G 17), (cn 0)]), ca G 0 200, ca G 0 200, ca G 0 200, .inr (4, [(cr G 19), (cr G 20), (cr G 21), (cr G 22), (cn 0)]), ca G 0 20, ca G 0 20, ca G 0 20, ca G 0 20, .inr (6, [(cr G 24), (cr G 25), (cr G 26), (cn 0)]), ca G 0 64, ca G 0 64, ca G 0 64, .inr (7, [cz, (cr G 28), (cr G 29), (cr G 30), cz, (cn 1), cz, cz, (cr G 31), (cr G 32), cz, cz, cz, (cn (-1)), cz, cz, cu, cz, cz, cz, cz, cu, cu]), ca G 0 400, ca G 0 400, ca G 0 400, ca G 1 50, ca G 1 50, ca G 0 51]
abbrev xl_84 (G : bgGl) : List va_E := [.inr (0, [(cr G 1), (cr G 2), (cr G 4), (cr G 14), (cr G 18), (cr G 23), (cn 0), (cn 0), (cn 0)]), .inr (1, [(cn (-1)), (cn 0)]), .inr (2, [(cr G 3), (cn 0), (cn 0), (cn 8)]), ca G 0 50, .inr (3, [(cr G 1), (cr G 2), (cr G 5), (cr G 10), (cn 0), (cn 0)]), .inr (4, [(cr G 6), (cr G 7), (cr G 8), (cr G 9), (cn 0)]), ca G 0 20, ca G 0 20, ca G 0 20, ca G 0 20, .inr (5, [(cr G 11), (cr G 12), (cr G 13), (cn 0)]), ca G 0 200, ca G 0 200, ca G 0 200, .inr (5, [(cr G 15), (cr G 16), (cr G 17), (cn 0)]), ca G 0 200, ca G 0 200, ca G 0 200, .inr (4, [(cr G 19), (cr G 20), (cr G 21), (cr G 22), (cn 0)]), ca G 0 20, ca G 0 20, ca G 0 20, ca G 0 20, .inr (6, [(cr G 24), (cr G 25), (cr G 26), (cn 0)]), ca G 0 64, ca G 0 64, ca G 0 64, .inr (7, [cz, (cr G 28), (cr G 29), (cr G 30), cz, (cn 1), cz, cz, (cr G 31), (cr G 32), cz, cz, cz, (cn (-1)), cz, cz, (cr G 33), cz, cz, cz, cz, cu, cu]), ca G 0 400, ca G 0 400, ca G 0 400, ca G 1 50, ca G 1 50, ca G 0 51]
abbrev xl_85 (G : bgGl) : List va_E := [.inr (0, [(cr G 1), (cr G 2), (cr G 4), (cr G 14), (cr G 18), (cr G 23), (cn 0), (cn 0), (cn 0)]), .inr (1, [(cn (-1)), (cn 0)]), .inr (2, [(cr G 3), (cn 0), (cn 0), (cn 8)]), ca G 0 50, .inr (3, [(cr G 1), (cr G 2), (cr G 5), (cr G 10), (cn 0), (cn 0)]), .inr (4, [(cr G 6), (cr G 7), (cr G 8), (cr G 9), (cn 0)]), ca G 0 20, ca G 0 20, ca G 0 20, ca G 0 20, .inr (5, [(cr G 11), (cr G 12), (cr G 13), (cn 0)]), ca G 0 200, ca G 0 200, ca G 0 200, .inr (5, [(cr G 15), (cr G 16), (cr G 17), (cn 0)]), ca G 0 200, ca G 0 200, ca G 0 200, .inr (4, [(cr G 19), (cr G 20), (cr G 21), (cr G 22), (cn 0)]), ca G 0 20, ca G 0 20, ca G 0 20, ca G 0 20, .inr (6, [(cr G 24), (cr G 25), (cr G 26), (cn 0)]), ca G 0 64, ca G 0 64, ca G 0 64, .inr (7, [cz, (cr G 28), (cr G 29), (cr G 30), cz, (cn 1), cz, cz, (cr G 31), (cr G 32), cz, cz, cz, (cn (-1)), cz, cz, (cr G 33), cz, (cn 8), cz, cz, cu, cu]), ca G 0 400, ca G 0 400, ca G 0 400, ca G 1 50, ca G 1 50, ca G 0 51]
abbrev xl_86 (G : bgGl) : List va_E := [.inr (0, [(cr G 1), (cr G 2), (cr G 4), (cr G 14), (cr G 18), (cr G 23), (cn 0), (cn 0), (cn 0)]), .inr (1, [(cn (-1)), (cn 0)]), .inr (2, [(cr G 3), (cn 0), (cn 0), (cn 8)]), ca G 0 50, .inr (3, [(cr G 1), (cr G 2), (cr G 5), (cr G 10), (cn 0), (cn 0)]), .inr (4, [(cr G 6), (cr G 7), (cr G 8), (cr G 9), (cn 0)]), ca G 0 20, ca G 0 20, ca G 0 20, ca G 0 20, .inr (5, [(cr G 11), (cr G 12), (cr G 13), (cn 0)]), ca G 0 200, ca G 0 200, ca G 0 200, .inr (5, [(cr G 15), (cr G 16), (cr G 17), (cn 0)]), ca G 0 200, ca G 0 200, ca G 0 200, .inr (4, [(cr G 19), (cr G 20), (cr G 21), (cr G 22), (cn 0)]), ca G 0 20, ca G 0 20, ca G 0 20, ca G 0 20, .inr (6, [(cr G 24), (cr G 25), (cr G 26), (cn 0)]), ca G 0 64, ca G 0 64, ca G 0 64, .inr (7, [cz, (cr G 28), (cr G 29), (cr G 30), cz, (cn 1), cz, cz, (cr G 31), (cr G 32), cz, cz, cz, (cn (-1)), cz, cz, (cr G 33), cz, (cn 8), (cn 1), cz, cu, cu]), ca G 0 400, ca G 0 400, ca G 0 400, ca G 1 50, ca G 1 50, ca G 0 51]
abbrev xl_87 (G : bgGl) : List va_E := [.inr (0, [(cr G 1), (cr G 2), (cr G 4), (cr G 14), (cr G 18), (cr G 23), (cn 0), (cn 0), (cn 0)]), .inr (1, [(cn (-1)), (cn 0)]), .inr (2, [(cr G 3), (cn 0), (cn 0), (cn 8)]), ca G 0 50, .inr (3, [(cr G 1), (cr G 2), (cr G 5), (cr G 10), (cn 0), (cn 0)]), .inr (4, [(cr G 6), (cr G 7), (cr G 8), (cr G 9), (cn 0)]), ca G 0 20, ca G 0 20, ca G 0 20, ca G 0 20, .inr (5, [(cr G 11), (cr G 12), (cr G 13), (cn 0)]), ca G 0 200, ca G 0 200, ca G 0 200, .inr (5, [(cr G 15), (cr G 16), (cr G 17), (cn 0)]), ca G 0 200, ca G 0 200, ca G 0 200, .inr (4, [(cr G 19), (cr G 20), (cr G 21), (cr G 22), (cn 0)]), ca G 0 20, ca G 0 20, ca G 0 20, ca G 0 20, .inr (6, [(cr G 24), (cr G 25), (cr G 26), (cn 0)]), ca G 0 64, ca G 0 64, ca G 0 64, .inr (7, [cz, (cr G 28), (cr G 29), (cr G 30), cz, (cn 1), cz, cz, (cr G 31), (cr G 32), cz, cz, cz, (cn (-1)), cz, cz, (cr G 33), cz, (cn 8), (cn 1), cz, cu, cu]), ca G 0 400, ca G 0 400, ca G 0 400, ca G 1 50, ca G 1 50, ca G 0 51, ca G 0 64]
abbrev xl_88 (G : bgGl) : List va_E := [.inr (0, [(cr G 1), (cr G 2), (cr G 4), (cr G 14), (cr G 18), (cr G 23), (cn 0), (cn 0), (cn 0)]), .inr (1, [(cn (-1)), (cn 0)]), .inr (2, [(cr G 3), (cn 0), (cn 0), (cn 8)]), ca G 0 50, .inr (3, [(cr G 1), (cr G 2), (cr G 5), (cr G 10), (cn 0), (cn 0)]), .inr (4, [(cr G 6), (cr G 7), (cr G 8), (cr G 9), (cn 0)]), ca G 0 20, ca G 0 20, ca G 0 20, ca G 0 20, .inr (5, [(cr G 11), (cr G 12), (cr G 13), (cn 0)]), ca G 0 200, ca G 0 200, ca G 0 200, .inr (5, [(cr G 15), (cr G 16), (cr G 17), (cn 0)]), ca G 0 200, ca G 0 200, ca G 0 200, .inr (4, [(cr G 19), (cr G 20), (cr G 21), (cr G 22), (cn 0)]), ca G 0 20, ca G 0 20, ca G 0 20, ca G 0 20, .inr (6, [(cr G 24), (cr G 25), (cr G 26), (cn 0)]), ca G 0 64, ca G 0 64, ca G 0 64, .inr (7, [cz, (cr G 28), (cr G 29), (cr G 30), cz, (cn 1), cz, cz, (cr G 31), (cr G 32), cz, cz, cz, (cn (-1)), cz, cz, (cr G 33), cz, (cn 8), (cn 1), cz, (cr G 34), cu]), ca G 0 400, ca G 0 400, ca G 0 400, ca G 1 50, ca G 1 50, ca G 0 51, ca G 0 64]
abbrev xl_89 (G : bgGl) : List va_E := [.inr (0, [(cr G 1), (cr G 2), (cr G 4), (cr G 14), (cr G 18), (cr G 23), (cn 0), (cn 0), (cn 0)]), .inr (1, [(cn (-1)), (cn 0)]), .inr (2, [(cr G 3), (cn 0), (cn 0), (cn 8)]), ca G 0 50, .inr (3, [(cr G 1), (cr G 2), (cr G 5), (cr G 10), (cn 0), (cn 0)]), .inr (4, [(cr G 6), (cr G 7), (cr G 8), (cr G 9), (cn 0)]), ca G 0 20, ca G 0 20, ca G 0 20, ca G 0 20, .inr (5, [(cr G 11), (cr G 12), (cr G 13), (cn 0)]), ca G 0 200, ca G 0 200, ca G 0 200, .inr (5, [(cr G 15), (cr G 16), (cr G 17), (cn 0)]), ca G 0 200, ca G 0 200, ca G 0 200, .inr (4, [(cr G 19), (cr G 20), (cr G 21), (cr G 22), (cn 0)]), ca G 0 20, ca G 0 20, ca G 0 20, ca G 0 20, .inr (6, [(cr G 24), (cr G 25), (cr G 26), (cn 0)]), ca G 0 64, ca G 0 64, ca G 0 64, .inr (7, [cz, (cr G 28), (cr G 29), (cr G 30), cz, (cn 1), cz, cz, (cr G 31), (cr G 32), cz, cz, cz, (cn (-1)), cz, cz, (cr G 33), cz, (cn 8), (cn 1), cz, (cr G 34), cu]), ca G 0 400, ca G 0 400, ca G 0 400, ca G 1 50, ca G 1 50, ca G 0 51, ca G 0 64, ca G 0 64]
abbrev xl_90 (G : bgGl) : List va_E := [.inr (0, [(cr G 1), (cr G 2), (cr G 4), (cr G 14), (cr G 18), (cr G 23), (cn 0), (cn 0), (cn 0)]), .inr (1, [(cn (-1)), (cn 0)]), .inr (2, [(cr G 3), (cn 0), (cn 0), (cn 8)]), ca G 0 50, .inr (3, [(cr G 1), (cr G 2), (cr G 5), (cr G 10), (cn 0), (cn 0)]), .inr (4, [(cr G 6), (cr G 7), (cr G 8), (cr G 9), (cn 0)]), ca G 0 20, ca G 0 20, ca G 0 20, ca G 0 20, .inr (5, [(cr G 11), (cr G 12), (cr G 13), (cn 0)]), ca G 0 200, ca G 0 200, ca G 0 200, .inr (5, [(cr G 15), (cr G 16), (cr G 17), (cn 0)]), ca G 0 200, ca G 0 200, ca G 0 200, .inr (4, [(cr G 19), (cr G 20), (cr G 21), (cr G 22), (cn 0)]), ca G 0 20, ca G 0 20, ca G 0 20, ca G 0 20, .inr (6, [(cr G 24), (cr G 25), (cr G 26), (cn 0)]), ca G 0 64, ca G 0 64, ca G 0 64, .inr (7, [cz, (cr G 28), (cr G 29), (cr G 30), cz, (cn 1), cz, cz, (cr G 31), (cr G 32), cz, cz, cz, (cn (-1)), cz, cz, (cr G 33), cz, (cn 8), (cn 1), cz, (cr G 34), (cr G 35)]), ca G 0 400, ca G 0 400, ca G 0 400, ca G 1 50, ca G 1 50, ca G 0 51, ca G 0 64, ca G 0 64]
abbrev xc (G : bgGl) (f : Nat → Int32) : List va_E := [.inr (0, [(cr G 1), (cr G 2), (cr G 4), (cr G 14), (cr G 18), (cr G 23), (cn 0), (cn 0), (cn 0)]), .inr (1, [(cn (-1)), (cn 0)]), .inr (2, [(cr G 3), (cn 0), (cn 0), (cn 8)]), ca G 0 50, .inr (3, [(cr G 1), (cr G 2), (cr G 5), (cr G 10), (cn 0), (cn 0)]), .inr (4, [(cr G 6), (cr G 7), (cr G 8), (cr G 9), (cn 0)]), ca G 0 20, ca G 0 20, ca G 0 20, ca G 0 20, .inr (5, [(cr G 11), (cr G 12), (cr G 13), (cn 0)]), ca G 0 200, ca G 0 200, ca G 0 200, .inr (5, [(cr G 15), (cr G 16), (cr G 17), (cn 0)]), ca G 0 200, ca G 0 200, ca G 0 200, .inr (4, [(cr G 19), (cr G 20), (cr G 21), (cr G 22), (cn 0)]), ca G 0 20, ca G 0 20, ca G 0 20, ca G 0 20, .inr (6, [(cr G 24), (cr G 25), (cr G 26), (cn 0)]), ca G 0 64, ca G 0 64, ca G 0 64, .inr (7, [cz, (cr G 28), (cr G 29), (cr G 30), cz, (cn 1), cz, cz, (cr G 31), (cr G 32), cz, cz, cz, (cn (-1)), cz, cz, (cr G 33), cz, (cn 8), (cn 1), cz, (cr G 34), (cr G 35)]), .inl (G.2.2.1 0, 400, .inl f), ca G 0 400, ca G 0 400, ca G 1 50, ca G 1 50, ca G 0 51, ca G 0 64, ca G 0 64]
def clF (i : Nat) : Nat → Int32 := fun j => if j < i then -1 else 0
theorem clF_0 : clF 0 = fun _ => 0 := by
  funext j
  unfold clF
  rw [if_neg (Nat.not_lt_zero j)]
theorem clF_s (i : Nat) : upd (clF i) i (Int32.ofInt (-1)) = clF (i + 1) := by
  funext j
  unfold clF upd
  by_cases h : j = i
  · subst h
    simp
  · have : (j < i) = (j < i + 1) := propext ⟨fun q => by omega, fun q => by omega⟩
    simp [h, this]
abbrev xl_92 (G : bgGl) : List va_E := [.inr (0, [(cr G 1), (cr G 2), (cr G 4), (cr G 14), (cr G 18), (cr G 23), (cn 0), (cn 0), (cn 0)]), .inr (1, [(cn (-1)), (cn 0)]), .inr (2, [(cr G 3), (cn 0), (cn 0), (cn 8)]), ca G 0 50, .inr (3, [(cr G 1), (cr G 2), (cr G 5), (cr G 10), (cn 0), (cn 0)]), .inr (4, [(cr G 6), (cr G 7), (cr G 8), (cr G 9), (cn 0)]), ca G 0 20, ca G 0 20, ca G 0 20, ca G 0 20, .inr (5, [(cr G 11), (cr G 12), (cr G 13), (cn 0)]), ca G 0 200, ca G 0 200, ca G 0 200, .inr (5, [(cr G 15), (cr G 16), (cr G 17), (cn 0)]), ca G 0 200, ca G 0 200, ca G 0 200, .inr (4, [(cr G 19), (cr G 20), (cr G 21), (cr G 22), (cn 0)]), ca G 0 20, ca G 0 20, ca G 0 20, ca G 0 20, .inr (6, [(cr G 24), (cr G 25), (cr G 26), (cn 0)]), ca G 0 64, ca G 0 64, ca G 0 64, .inr (7, [cz, (cr G 28), (cr G 29), (cr G 30), cz, (cn 1), cz, cz, (cr G 31), (cr G 32), cz, cz, cz, (cn (-1)), cz, cz, (cr G 33), cz, (cn 8), (cn 1), cz, (cr G 34), (cr G 35)]), .inl (G.2.2.1 0, 400, .inl (clF 400)), ca G 0 400, ca G 0 400, ca G 1 50, ca G 1 50, ca G 0 51, ca G 0 64, ca G 0 64]
abbrev xl_93 (G : bgGl) : List va_E := [.inr (0, [(cr G 1), (cr G 2), (cr G 4), (cr G 14), (cr G 18), (cr G 23), (cn 0), (cn 0), (cn 0)]), .inr (1, [(cn (-1)), (cn 0)]), .inr (2, [(cr G 3), (cn 0), (cn 0), (cn 8)]), ca G 0 50, .inr (3, [(cr G 1), (cr G 2), (cr G 5), (cr G 10), (cn 0), (cn 0)]), .inr (4, [(cr G 6), (cr G 7), (cr G 8), (cr G 9), (cn 0)]), ca G 0 20, ca G 0 20, ca G 0 20, ca G 0 20, .inr (5, [(cr G 11), (cr G 12), (cr G 13), (cn 0)]), ca G 0 200, ca G 0 200, ca G 0 200, .inr (5, [(cr G 15), (cr G 16), (cr G 17), (cn 0)]), ca G 0 200, ca G 0 200, ca G 0 200, .inr (4, [(cr G 19), (cr G 20), (cr G 21), (cr G 22), (cn 0)]), ca G 0 20, ca G 0 20, ca G 0 20, ca G 0 20, .inr (6, [(cr G 24), (cr G 25), (cr G 26), (cn 0)]), ca G 0 64, ca G 0 64, ca G 0 64, .inr (7, [cz, (cr G 28), (cr G 29), (cr G 30), cz, (cn 1), cz, cz, (cr G 31), (cr G 32), cz, cz, cz, (cn (-1)), cz, cz, (cr G 33), cz, (cn 8), (cn 1), cz, (cr G 34), (cr G 35)]), .inl (G.2.2.1 0, 400, .inl (clF 400)), ca G 0 400, ca G 0 400, ca G 1 50, ca G 1 50, ca G 0 51, ca G 0 64, ca G 0 64, cj G 1]
def rm_k_pw_init_1 : Room := { frames := 1, cells := 0, slots := 0, locals := 20 }
set_option maxRecDepth 20000 in
set_option maxHeartbeats 4000000 in
theorem k_pw_init_1 {G : bgGl} (hG : bgOk G) (hA : cAd G) : cM G 0 0 y_pw_init (.code y_pw_init co_pw_init 1 none) rm_k_pw_init_1 [br 1] (xl_1 G) (xl_3 G) := by
  refine c_met hG hA (by decide +kernel) (bg_cat rfl) (Nat.le_of_ble_eq_true rfl) ?_
  intro K hK hR hk hnm C
  subst hK
  show cX K 0 0 _ (xl_1 K.1) 0 [some (br 1)] []
  refine c_aload_n C d_pw_init_0 rfl rfl ?_
  refine c_objInit C tw_67 t_oi_i t_oi_c rfl (by rw [hR]; decide) (Nat.le_of_ble_eq_true rfl) (by rw [hR]; decide) d_pw_init_1 ?_
  refine c_aload_n C d_pw_init_4 rfl rfl ?_
  refine c_iconst C d_pw_init_5 ?_
  refine c_put (k := 1) (i := 0) (fs := [cz, cz]) C cf_pw (Nat.le_of_ble_eq_true rfl) rfl (by decide) rfl rfl rfl (Nat.le_of_ble_eq_true rfl) tw_68 d_pw_init_6 ?_
  show cX K 0 0 _ (xl_2 K.1) 9 [some (br 1)] []
  refine c_aload_n C d_pw_init_9 rfl rfl ?_
  refine c_iconst C d_pw_init_10 ?_
  refine c_put (k := 1) (i := 1) (fs := [(cn (-1)), cz]) C cf_pw (Nat.le_of_ble_eq_true rfl) rfl (by decide) rfl rfl rfl (Nat.le_of_ble_eq_true rfl) tw_70 d_pw_init_11 ?_
  show cX K 0 0 _ (xl_3 K.1) 14 [some (br 1)] []
  exact c_ret C d_pw_init_14 rfl (by decide) (by decide)
def rm_k_hd_init_2 : Room := { frames := 1, cells := 1, slots := 50, locals := 20 }
set_option maxRecDepth 20000 in
set_option maxHeartbeats 4000000 in
theorem k_hd_init_2 {G : bgGl} (hG : bgOk G) (hA : cAd G) : cM G 1 50 y_hd_init (.code y_hd_init co_hd_init 1 none) rm_k_hd_init_2 [br 2] (xl_5 G) (xl_10 G) := by
  refine c_met hG hA (by decide +kernel) (bg_cat rfl) (Nat.le_of_ble_eq_true rfl) ?_
  intro K hK hR hk hnm C
  subst hK
  show cX K 0 0 _ (xl_5 K.1) 0 [some (br 2)] []
  refine c_aload_n C d_hd_init_0 rfl rfl ?_
  refine c_objInit C tw_82 t_oi_i t_oi_c rfl (by rw [hR]; decide) (Nat.le_of_ble_eq_true rfl) (by rw [hR]; decide) d_hd_init_1 ?_
  refine c_aload_n C d_hd_init_4 rfl rfl ?_
  refine c_bipush C d_hd_init_5 (by decide +kernel) ?_
  refine c_newa (atype := .int) (ty := .int) (k := 3) (N' := 50) (a0 := (50, .inl (fun _ => 0))) C 0 rfl rfl (fun _ _ h => h) hk rfl (Nat.le_of_ble_eq_true rfl) rfl tw_99 (fun cA => c_d0 cA _) (by decide +kernel) (by decide +kernel) (by decide +kernel) (by rw [hR]; decide) (by rw [hR]; decide) d_hd_init_7 ?_
  show cX K 1 50 _ (xl_6 K.1) 9 [some (br 2)] [br 3, br 2]
  refine c_putF (k := 2) (i := 0) (fs := [cu, cz, cz, cz]) C cf_hd (Nat.le_of_ble_eq_true rfl) hnm rfl rfl (by decide) rfl rfl rfl (Nat.le_of_ble_eq_true rfl) tw_83 d_hd_init_9 ?_
  show cX K 1 50 _ (xl_7 K.1) 12 [some (br 2)] []
  refine c_aload_n C d_hd_init_12 rfl rfl ?_
  refine c_iconst C d_hd_init_13 ?_
  refine c_put (k := 2) (i := 1) (fs := [(cr K.1 3), cz, cz, cz]) C cf_hd (Nat.le_of_ble_eq_true rfl) rfl (by decide) rfl rfl rfl (Nat.le_of_ble_eq_true rfl) tw_85 d_hd_init_14 ?_
  show cX K 1 50 _ (xl_8 K.1) 17 [some (br 2)] []
  refine c_aload_n C d_hd_init_17 rfl rfl ?_
  refine c_iconst C d_hd_init_18 ?_
  refine c_put (k := 2) (i := 2) (fs := [(cr K.1 3), (cn 0), cz, cz]) C cf_hd (Nat.le_of_ble_eq_true rfl) rfl (by decide) rfl rfl rfl (Nat.le_of_ble_eq_true rfl) tw_87 d_hd_init_19 ?_
  show cX K 1 50 _ (xl_9 K.1) 22 [some (br 2)] []
  refine c_aload_n C d_hd_init_22 rfl rfl ?_
  refine c_bipush C d_hd_init_23 (by decide +kernel) ?_
  refine c_put (k := 2) (i := 3) (fs := [(cr K.1 3), (cn 0), (cn 0), cz]) C cf_hd (Nat.le_of_ble_eq_true rfl) rfl (by decide) rfl rfl rfl (Nat.le_of_ble_eq_true rfl) tw_89 d_hd_init_25 ?_
  show cX K 1 50 _ (xl_10 K.1) 28 [some (br 2)] []
  exact c_ret C d_hd_init_28 rfl (by decide) (by decide)
def rm_k_op_init_5 : Room := { frames := 1, cells := 4, slots := 80, locals := 20 }
set_option maxRecDepth 20000 in
set_option maxHeartbeats 4000000 in
theorem k_op_init_5 {G : bgGl} (hG : bgOk G) (hA : cAd G) : cM G 4 80 y_op_init (.code y_op_init co_op_init 1 none) rm_k_op_init_5 [br 5] (xl_13 G) (xl_22 G) := by
  refine c_met hG hA (by decide +kernel) (bg_cat rfl) (Nat.le_of_ble_eq_true rfl) ?_
  intro K hK hR hk hnm C
  subst hK
  show cX K 0 0 _ (xl_13 K.1) 0 [some (br 5)] []
  refine c_aload_n C d_op_init_0 rfl rfl ?_
  refine c_objInit C tw_111 t_oi_i t_oi_c rfl (by rw [hR]; decide) (Nat.le_of_ble_eq_true rfl) (by rw [hR]; decide) d_op_init_1 ?_
  refine c_aload_n C d_op_init_4 rfl rfl ?_
  refine c_bipush C d_op_init_5 (by decide +kernel) ?_
  refine c_newa (atype := .int) (ty := .int) (k := 6) (N' := 20) (a0 := (20, .inl (fun _ => 0))) C 0 rfl rfl (fun _ _ h => h) hk rfl (Nat.le_of_ble_eq_true rfl) rfl tw_99 (fun cA => c_d0 cA _) (by decide +kernel) (by decide +kernel) (by decide +kernel) (by rw [hR]; decide) (by rw [hR]; decide) d_op_init_7 ?_
  show cX K 1 20 _ (xl_14 K.1) 9 [some (br 5)] [br 6, br 5]
  refine c_putF (k := 5) (i := 0) (fs := [cu, cu, cu, cu, cz]) C cf_op (Nat.le_of_ble_eq_true rfl) hnm rfl rfl (by decide) rfl rfl rfl (Nat.le_of_ble_eq_true rfl) tw_112 d_op_init_9 ?_
  show cX K 1 20 _ (xl_15 K.1) 12 [some (br 5)] []
  refine c_aload_n C d_op_init_12 rfl rfl ?_
  refine c_bipush C d_op_init_13 (by decide +kernel) ?_
  refine c_newa (atype := .int) (ty := .int) (k := 7) (N' := 20) (a0 := (20, .inl (fun _ => 0))) C 0 rfl rfl (fun _ _ h => h) hk rfl (Nat.le_of_ble_eq_true rfl) rfl tw_99 (fun cA => c_d0 cA _) (by decide +kernel) (by decide +kernel) (by decide +kernel) (by rw [hR]; decide) (by rw [hR]; decide) d_op_init_15 ?_
  show cX K 2 40 _ (xl_16 K.1) 17 [some (br 5)] [br 7, br 5]
  refine c_putF (k := 5) (i := 1) (fs := [(cr K.1 6), cu, cu, cu, cz]) C cf_op (Nat.le_of_ble_eq_true rfl) hnm rfl rfl (by decide) rfl rfl rfl (Nat.le_of_ble_eq_true rfl) tw_113 d_op_init_17 ?_
  show cX K 2 40 _ (xl_17 K.1) 20 [some (br 5)] []
  refine c_aload_n C d_op_init_20 rfl rfl ?_
  refine c_bipush C d_op_init_21 (by decide +kernel) ?_
  refine c_newa (atype := .int) (ty := .int) (k := 8) (N' := 20) (a0 := (20, .inl (fun _ => 0))) C 0 rfl rfl (fun _ _ h => h) hk rfl (Nat.le_of_ble_eq_true rfl) rfl tw_99 (fun cA => c_d0 cA _) (by decide +kernel) (by decide +kernel) (by decide +kernel) (by rw [hR]; decide) (by rw [hR]; decide) d_op_init_23 ?_
  show cX K 3 60 _ (xl_18 K.1) 25 [some (br 5)] [br 8, br 5]
  refine c_putF (k := 5) (i := 2) (fs := [(cr K.1 6), (cr K.1 7), cu, cu, cz]) C cf_op (Nat.le_of_ble_eq_true rfl) hnm rfl rfl (by decide) rfl rfl rfl (Nat.le_of_ble_eq_true rfl) tw_114 d_op_init_25 ?_
  show cX K 3 60 _ (xl_19 K.1) 28 [some (br 5)] []
  refine c_aload_n C d_op_init_28 rfl rfl ?_
  refine c_bipush C d_op_init_29 (by decide +kernel) ?_
  refine c_newa (atype := .int) (ty := .int) (k := 9) (N' := 20) (a0 := (20, .inl (fun _ => 0))) C 0 rfl rfl (fun _ _ h => h) hk rfl (Nat.le_of_ble_eq_true rfl) rfl tw_99 (fun cA => c_d0 cA _) (by decide +kernel) (by decide +kernel) (by decide +kernel) (by rw [hR]; decide) (by rw [hR]; decide) d_op_init_31 ?_
  show cX K 4 80 _ (xl_20 K.1) 33 [some (br 5)] [br 9, br 5]
  refine c_putF (k := 5) (i := 3) (fs := [(cr K.1 6), (cr K.1 7), (cr K.1 8), cu, cz]) C cf_op (Nat.le_of_ble_eq_true rfl) hnm rfl rfl (by decide) rfl rfl rfl (Nat.le_of_ble_eq_true rfl) tw_115 d_op_init_33 ?_
  show cX K 4 80 _ (xl_21 K.1) 36 [some (br 5)] []
  refine c_aload_n C d_op_init_36 rfl rfl ?_
  refine c_iconst C d_op_init_37 ?_
  refine c_put (k := 5) (i := 4) (fs := [(cr K.1 6), (cr K.1 7), (cr K.1 8), (cr K.1 9), cz]) C cf_op (Nat.le_of_ble_eq_true rfl) rfl (by decide) rfl rfl rfl (Nat.le_of_ble_eq_true rfl) tw_116 d_op_init_38 ?_
  show cX K 4 80 _ (xl_22 K.1) 41 [some (br 5)] []
  exact c_ret C d_op_init_41 rfl (by decide) (by decide)
def rm_k_et_init_10 : Room := { frames := 1, cells := 3, slots := 600, locals := 20 }
set_option maxRecDepth 20000 in
set_option maxHeartbeats 4000000 in
theorem k_et_init_10 {G : bgGl} (hG : bgOk G) (hA : cAd G) : cM G 3 600 y_et_init (.code y_et_init co_et_init 1 none) rm_k_et_init_10 [br 10] (xl_24 G) (xl_31 G) := by
  refine c_met hG hA (by decide +kernel) (bg_cat rfl) (Nat.le_of_ble_eq_true rfl) ?_
  intro K hK hR hk hnm C
  subst hK
  show cX K 0 0 _ (xl_24 K.1) 0 [some (br 10)] []
  refine c_aload_n C d_et_init_0 rfl rfl ?_
  refine c_objInit C tw_135 t_oi_i t_oi_c rfl (by rw [hR]; decide) (Nat.le_of_ble_eq_true rfl) (by rw [hR]; decide) d_et_init_1 ?_
  refine c_aload_n C d_et_init_4 rfl rfl ?_
  refine c_sipush C d_et_init_5 (by decide +kernel) ?_
  refine c_newa (atype := .int) (ty := .int) (k := 11) (N' := 200) (a0 := (200, .inl (fun _ => 0))) C 0 rfl rfl (fun _ _ h => h) hk rfl (Nat.le_of_ble_eq_true rfl) rfl tw_99 (fun cA => c_d0 cA _) (by decide +kernel) (by decide +kernel) (by decide +kernel) (by rw [hR]; decide) (by rw [hR]; decide) d_et_init_8 ?_
  show cX K 1 200 _ (xl_25 K.1) 10 [some (br 10)] [br 11, br 10]
  refine c_putF (k := 10) (i := 0) (fs := [cu, cu, cu, cz]) C cf_et (Nat.le_of_ble_eq_true rfl) hnm rfl rfl (by decide) rfl rfl rfl (Nat.le_of_ble_eq_true rfl) tw_136 d_et_init_10 ?_
  show cX K 1 200 _ (xl_26 K.1) 13 [some (br 10)] []
  refine c_aload_n C d_et_init_13 rfl rfl ?_
  refine c_sipush C d_et_init_14 (by decide +kernel) ?_
  refine c_newa (atype := .int) (ty := .int) (k := 12) (N' := 200) (a0 := (200, .inl (fun _ => 0))) C 0 rfl rfl (fun _ _ h => h) hk rfl (Nat.le_of_ble_eq_true rfl) rfl tw_99 (fun cA => c_d0 cA _) (by decide +kernel) (by decide +kernel) (by decide +kernel) (by rw [hR]; decide) (by rw [hR]; decide) d_et_init_17 ?_
  show cX K 2 400 _ (xl_27 K.1) 19 [some (br 10)] [br 12, br 10]
  refine c_putF (k := 10) (i := 1) (fs := [(cr K.1 11), cu, cu, cz]) C cf_et (Nat.le_of_ble_eq_true rfl) hnm rfl rfl (by decide) rfl rfl rfl (Nat.le_of_ble_eq_true rfl) tw_139 d_et_init_19 ?_
  show cX K 2 400 _ (xl_28 K.1) 22 [some (br 10)] []
  refine c_aload_n C d_et_init_22 rfl rfl ?_
  refine c_sipush C d_et_init_23 (by decide +kernel) ?_
  refine c_newa (atype := .int) (ty := .int) (k := 13) (N' := 200) (a0 := (200, .inl (fun _ => 0))) C 0 rfl rfl (fun _ _ h => h) hk rfl (Nat.le_of_ble_eq_true rfl) rfl tw_99 (fun cA => c_d0 cA _) (by decide +kernel) (by decide +kernel) (by decide +kernel) (by rw [hR]; decide) (by rw [hR]; decide) d_et_init_26 ?_
  show cX K 3 600 _ (xl_29 K.1) 28 [some (br 10)] [br 13, br 10]
  refine c_putF (k := 10) (i := 2) (fs := [(cr K.1 11), (cr K.1 12), cu, cz]) C cf_et (Nat.le_of_ble_eq_true rfl) hnm rfl rfl (by decide) rfl rfl rfl (Nat.le_of_ble_eq_true rfl) tw_142 d_et_init_28 ?_
  show cX K 3 600 _ (xl_30 K.1) 31 [some (br 10)] []
  refine c_aload_n C d_et_init_31 rfl rfl ?_
  refine c_iconst C d_et_init_32 ?_
  refine c_put (k := 10) (i := 3) (fs := [(cr K.1 11), (cr K.1 12), (cr K.1 13), cz]) C cf_et (Nat.le_of_ble_eq_true rfl) rfl (by decide) rfl rfl rfl (Nat.le_of_ble_eq_true rfl) tw_145 d_et_init_33 ?_
  show cX K 3 600 _ (xl_31 K.1) 36 [some (br 10)] []
  exact c_ret C d_et_init_36 rfl (by decide) (by decide)
def rm_k_so_init_4 : Room := { frames := 2, cells := 9, slots := 689, locals := 40 }
set_option maxRecDepth 20000 in
set_option maxHeartbeats 4000000 in
theorem k_so_init_4 {G : bgGl} (hG : bgOk G) (hA : cAd G) : cM G 9 689 y_so_init (.code y_so_init co_so_init 3 none) rm_k_so_init_4 [br 4, br 1, br 2] (xl_12 G) (xl_36 G) := by
  refine c_met hG hA (by decide +kernel) (bg_cat rfl) (Nat.le_of_ble_eq_true rfl) ?_
  intro K hK hR hk hnm C
  subst hK
  show cX K 0 0 _ (xl_12 K.1) 0 [some (br 4), some (br 1), some (br 2)] []
  refine c_aload_n C d_so_init_0 rfl rfl ?_
  refine c_objInit C tw_105 t_oi_i t_oi_c rfl (by rw [hR]; decide) (Nat.le_of_ble_eq_true rfl) (by rw [hR]; decide) d_so_init_1 ?_
  refine c_aload_n C d_so_init_4 rfl rfl ?_
  refine c_new (k := 5) (fs := [cu, cu, cu, cu, cz]) C cf_op hk rfl (Nat.le_of_ble_eq_true rfl) rfl tw_106 tw_107 tw_39 (fun j hj => by rcases (show j = 0 ∨ j = 1 ∨ j = 2 ∨ j = 3 ∨ j = 4 by omega) with rfl | rfl | rfl | rfl | rfl <;> rfl) (by rw [hR]; decide) (by rw [hR]; decide) d_so_init_5 ?_
  show cX K 1 5 _ (xl_13 K.1) 8 [some (br 4), some (br 1), some (br 2)] [br 5, br 4]
  refine c_dup C d_so_init_8 rfl ?_
  refine c_call C hk rfl (Nat.le_of_ble_eq_true rfl) (k_op_init_5 hG hA) (c_invIN C rfl tw_108 ti_op_init tc_op_init tw_39 ⟨by decide, by decide⟩ (nA := 0) (by decide +kernel) rfl d_so_init_9 rfl) rfl (by rw [hR]; exact ⟨by decide, by decide⟩) (by rw [hR]; exact ⟨by decide, by decide⟩) (Nat.le_of_ble_eq_true rfl) rfl ?_
  show cX K 5 85 _ (xl_22 K.1) 12 [some (br 4), some (br 1), some (br 2)] [br 5, br 4]
  refine c_putF (k := 4) (i := 2) (fs := [cu, cu, cu, cu, cz, cz]) C cf_so (Nat.le_of_ble_eq_true rfl) hnm rfl rfl (by decide) rfl rfl rfl (Nat.le_of_ble_eq_true rfl) tw_158 d_so_init_12 ?_
  show cX K 5 85 _ (xl_23 K.1) 15 [some (br 4), some (br 1), some (br 2)] []
  refine c_aload_n C d_so_init_15 rfl rfl ?_
  refine c_new (k := 10) (fs := [cu, cu, cu, cz]) C cf_et hk rfl (Nat.le_of_ble_eq_true rfl) rfl tw_130 tw_131 tw_40 (fun j hj => by rcases (show j = 0 ∨ j = 1 ∨ j = 2 ∨ j = 3 by omega) with rfl | rfl | rfl | rfl <;> rfl) (by rw [hR]; decide) (by rw [hR]; decide) d_so_init_16 ?_
  show cX K 6 89 _ (xl_24 K.1) 19 [some (br 4), some (br 1), some (br 2)] [br 10, br 4]
  refine c_dup C d_so_init_19 rfl ?_
  refine c_call C hk rfl (Nat.le_of_ble_eq_true rfl) (k_et_init_10 hG hA) (c_invIN C rfl tw_132 ti_et_init tc_et_init tw_40 ⟨by decide, by decide⟩ (nA := 0) (by decide +kernel) rfl d_so_init_20 rfl) rfl (by rw [hR]; exact ⟨by decide, by decide⟩) (by rw [hR]; exact ⟨by decide, by decide⟩) (Nat.le_of_ble_eq_true rfl) rfl ?_
  show cX K 9 689 _ (xl_31 K.1) 23 [some (br 4), some (br 1), some (br 2)] [br 10, br 4]
  refine c_putF (k := 4) (i := 3) (fs := [cu, cu, (cr K.1 5), cu, cz, cz]) C cf_so (Nat.le_of_ble_eq_true rfl) hnm rfl rfl (by decide) rfl rfl rfl (Nat.le_of_ble_eq_true rfl) tw_159 d_so_init_23 ?_
  show cX K 9 689 _ (xl_32 K.1) 26 [some (br 4), some (br 1), some (br 2)] []
  refine c_aload_n C d_so_init_26 rfl rfl ?_
  refine c_iconst C d_so_init_27 ?_
  refine c_put (k := 4) (i := 4) (fs := [cu, cu, (cr K.1 5), (cr K.1 10), cz, cz]) C cf_so (Nat.le_of_ble_eq_true rfl) rfl (by decide) rfl rfl rfl (Nat.le_of_ble_eq_true rfl) tw_161 d_so_init_28 ?_
  show cX K 9 689 _ (xl_33 K.1) 31 [some (br 4), some (br 1), some (br 2)] []
  refine c_aload_n C d_so_init_31 rfl rfl ?_
  refine c_iconst C d_so_init_32 ?_
  refine c_put (k := 4) (i := 5) (fs := [cu, cu, (cr K.1 5), (cr K.1 10), (cn 0), cz]) C cf_so (Nat.le_of_ble_eq_true rfl) rfl (by decide) rfl rfl rfl (Nat.le_of_ble_eq_true rfl) tw_163 d_so_init_33 ?_
  show cX K 9 689 _ (xl_34 K.1) 36 [some (br 4), some (br 1), some (br 2)] []
  refine c_aload_n C d_so_init_36 rfl rfl ?_
  refine c_aload_n C d_so_init_37 rfl rfl ?_
  refine c_putF (k := 4) (i := 0) (fs := [cu, cu, (cr K.1 5), (cr K.1 10), (cn 0), (cn 0)]) C cf_so (Nat.le_of_ble_eq_true rfl) hnm rfl rfl (by decide) rfl rfl rfl (Nat.le_of_ble_eq_true rfl) tw_156 d_so_init_38 ?_
  show cX K 9 689 _ (xl_35 K.1) 41 [some (br 4), some (br 1), some (br 2)] []
  refine c_aload_n C d_so_init_41 rfl rfl ?_
  refine c_aload_n C d_so_init_42 rfl rfl ?_
  refine c_putF (k := 4) (i := 1) (fs := [(cr K.1 1), cu, (cr K.1 5), (cr K.1 10), (cn 0), (cn 0)]) C cf_so (Nat.le_of_ble_eq_true rfl) hnm rfl rfl (by decide) rfl rfl rfl (Nat.le_of_ble_eq_true rfl) tw_157 d_so_init_43 ?_
  show cX K 9 689 _ (xl_36 K.1) 46 [some (br 4), some (br 1), some (br 2)] []
  exact c_ret C d_so_init_46 rfl (by decide) (by decide)
def rm_k_et_init_14 : Room := { frames := 1, cells := 3, slots := 600, locals := 20 }
set_option maxRecDepth 20000 in
set_option maxHeartbeats 4000000 in
theorem k_et_init_14 {G : bgGl} (hG : bgOk G) (hA : cAd G) : cM G 3 600 y_et_init (.code y_et_init co_et_init 1 none) rm_k_et_init_14 [br 14] (xl_38 G) (xl_45 G) := by
  refine c_met hG hA (by decide +kernel) (bg_cat rfl) (Nat.le_of_ble_eq_true rfl) ?_
  intro K hK hR hk hnm C
  subst hK
  show cX K 0 0 _ (xl_38 K.1) 0 [some (br 14)] []
  refine c_aload_n C d_et_init_0 rfl rfl ?_
  refine c_objInit C tw_135 t_oi_i t_oi_c rfl (by rw [hR]; decide) (Nat.le_of_ble_eq_true rfl) (by rw [hR]; decide) d_et_init_1 ?_
  refine c_aload_n C d_et_init_4 rfl rfl ?_
  refine c_sipush C d_et_init_5 (by decide +kernel) ?_
  refine c_newa (atype := .int) (ty := .int) (k := 15) (N' := 200) (a0 := (200, .inl (fun _ => 0))) C 0 rfl rfl (fun _ _ h => h) hk rfl (Nat.le_of_ble_eq_true rfl) rfl tw_99 (fun cA => c_d0 cA _) (by decide +kernel) (by decide +kernel) (by decide +kernel) (by rw [hR]; decide) (by rw [hR]; decide) d_et_init_8 ?_
  show cX K 1 200 _ (xl_39 K.1) 10 [some (br 14)] [br 15, br 14]
  refine c_putF (k := 14) (i := 0) (fs := [cu, cu, cu, cz]) C cf_et (Nat.le_of_ble_eq_true rfl) hnm rfl rfl (by decide) rfl rfl rfl (Nat.le_of_ble_eq_true rfl) tw_136 d_et_init_10 ?_
  show cX K 1 200 _ (xl_40 K.1) 13 [some (br 14)] []
  refine c_aload_n C d_et_init_13 rfl rfl ?_
  refine c_sipush C d_et_init_14 (by decide +kernel) ?_
  refine c_newa (atype := .int) (ty := .int) (k := 16) (N' := 200) (a0 := (200, .inl (fun _ => 0))) C 0 rfl rfl (fun _ _ h => h) hk rfl (Nat.le_of_ble_eq_true rfl) rfl tw_99 (fun cA => c_d0 cA _) (by decide +kernel) (by decide +kernel) (by decide +kernel) (by rw [hR]; decide) (by rw [hR]; decide) d_et_init_17 ?_
  show cX K 2 400 _ (xl_41 K.1) 19 [some (br 14)] [br 16, br 14]
  refine c_putF (k := 14) (i := 1) (fs := [(cr K.1 15), cu, cu, cz]) C cf_et (Nat.le_of_ble_eq_true rfl) hnm rfl rfl (by decide) rfl rfl rfl (Nat.le_of_ble_eq_true rfl) tw_139 d_et_init_19 ?_
  show cX K 2 400 _ (xl_42 K.1) 22 [some (br 14)] []
  refine c_aload_n C d_et_init_22 rfl rfl ?_
  refine c_sipush C d_et_init_23 (by decide +kernel) ?_
  refine c_newa (atype := .int) (ty := .int) (k := 17) (N' := 200) (a0 := (200, .inl (fun _ => 0))) C 0 rfl rfl (fun _ _ h => h) hk rfl (Nat.le_of_ble_eq_true rfl) rfl tw_99 (fun cA => c_d0 cA _) (by decide +kernel) (by decide +kernel) (by decide +kernel) (by rw [hR]; decide) (by rw [hR]; decide) d_et_init_26 ?_
  show cX K 3 600 _ (xl_43 K.1) 28 [some (br 14)] [br 17, br 14]
  refine c_putF (k := 14) (i := 2) (fs := [(cr K.1 15), (cr K.1 16), cu, cz]) C cf_et (Nat.le_of_ble_eq_true rfl) hnm rfl rfl (by decide) rfl rfl rfl (Nat.le_of_ble_eq_true rfl) tw_142 d_et_init_28 ?_
  show cX K 3 600 _ (xl_44 K.1) 31 [some (br 14)] []
  refine c_aload_n C d_et_init_31 rfl rfl ?_
  refine c_iconst C d_et_init_32 ?_
  refine c_put (k := 14) (i := 3) (fs := [(cr K.1 15), (cr K.1 16), (cr K.1 17), cz]) C cf_et (Nat.le_of_ble_eq_true rfl) rfl (by decide) rfl rfl rfl (Nat.le_of_ble_eq_true rfl) tw_145 d_et_init_33 ?_
  show cX K 3 600 _ (xl_45 K.1) 36 [some (br 14)] []
  exact c_ret C d_et_init_36 rfl (by decide) (by decide)
def rm_k_op_init_18 : Room := { frames := 1, cells := 4, slots := 80, locals := 20 }
set_option maxRecDepth 20000 in
set_option maxHeartbeats 4000000 in
theorem k_op_init_18 {G : bgGl} (hG : bgOk G) (hA : cAd G) : cM G 4 80 y_op_init (.code y_op_init co_op_init 1 none) rm_k_op_init_18 [br 18] (xl_47 G) (xl_56 G) := by
  refine c_met hG hA (by decide +kernel) (bg_cat rfl) (Nat.le_of_ble_eq_true rfl) ?_
  intro K hK hR hk hnm C
  subst hK
  show cX K 0 0 _ (xl_47 K.1) 0 [some (br 18)] []
  refine c_aload_n C d_op_init_0 rfl rfl ?_
  refine c_objInit C tw_111 t_oi_i t_oi_c rfl (by rw [hR]; decide) (Nat.le_of_ble_eq_true rfl) (by rw [hR]; decide) d_op_init_1 ?_
  refine c_aload_n C d_op_init_4 rfl rfl ?_
  refine c_bipush C d_op_init_5 (by decide +kernel) ?_
  refine c_newa (atype := .int) (ty := .int) (k := 19) (N' := 20) (a0 := (20, .inl (fun _ => 0))) C 0 rfl rfl (fun _ _ h => h) hk rfl (Nat.le_of_ble_eq_true rfl) rfl tw_99 (fun cA => c_d0 cA _) (by decide +kernel) (by decide +kernel) (by decide +kernel) (by rw [hR]; decide) (by rw [hR]; decide) d_op_init_7 ?_
  show cX K 1 20 _ (xl_48 K.1) 9 [some (br 18)] [br 19, br 18]
  refine c_putF (k := 18) (i := 0) (fs := [cu, cu, cu, cu, cz]) C cf_op (Nat.le_of_ble_eq_true rfl) hnm rfl rfl (by decide) rfl rfl rfl (Nat.le_of_ble_eq_true rfl) tw_112 d_op_init_9 ?_
  show cX K 1 20 _ (xl_49 K.1) 12 [some (br 18)] []
  refine c_aload_n C d_op_init_12 rfl rfl ?_
  refine c_bipush C d_op_init_13 (by decide +kernel) ?_
  refine c_newa (atype := .int) (ty := .int) (k := 20) (N' := 20) (a0 := (20, .inl (fun _ => 0))) C 0 rfl rfl (fun _ _ h => h) hk rfl (Nat.le_of_ble_eq_true rfl) rfl tw_99 (fun cA => c_d0 cA _) (by decide +kernel) (by decide +kernel) (by decide +kernel) (by rw [hR]; decide) (by rw [hR]; decide) d_op_init_15 ?_
  show cX K 2 40 _ (xl_50 K.1) 17 [some (br 18)] [br 20, br 18]
  refine c_putF (k := 18) (i := 1) (fs := [(cr K.1 19), cu, cu, cu, cz]) C cf_op (Nat.le_of_ble_eq_true rfl) hnm rfl rfl (by decide) rfl rfl rfl (Nat.le_of_ble_eq_true rfl) tw_113 d_op_init_17 ?_
  show cX K 2 40 _ (xl_51 K.1) 20 [some (br 18)] []
  refine c_aload_n C d_op_init_20 rfl rfl ?_
  refine c_bipush C d_op_init_21 (by decide +kernel) ?_
  refine c_newa (atype := .int) (ty := .int) (k := 21) (N' := 20) (a0 := (20, .inl (fun _ => 0))) C 0 rfl rfl (fun _ _ h => h) hk rfl (Nat.le_of_ble_eq_true rfl) rfl tw_99 (fun cA => c_d0 cA _) (by decide +kernel) (by decide +kernel) (by decide +kernel) (by rw [hR]; decide) (by rw [hR]; decide) d_op_init_23 ?_
  show cX K 3 60 _ (xl_52 K.1) 25 [some (br 18)] [br 21, br 18]
  refine c_putF (k := 18) (i := 2) (fs := [(cr K.1 19), (cr K.1 20), cu, cu, cz]) C cf_op (Nat.le_of_ble_eq_true rfl) hnm rfl rfl (by decide) rfl rfl rfl (Nat.le_of_ble_eq_true rfl) tw_114 d_op_init_25 ?_
  show cX K 3 60 _ (xl_53 K.1) 28 [some (br 18)] []
  refine c_aload_n C d_op_init_28 rfl rfl ?_
  refine c_bipush C d_op_init_29 (by decide +kernel) ?_
  refine c_newa (atype := .int) (ty := .int) (k := 22) (N' := 20) (a0 := (20, .inl (fun _ => 0))) C 0 rfl rfl (fun _ _ h => h) hk rfl (Nat.le_of_ble_eq_true rfl) rfl tw_99 (fun cA => c_d0 cA _) (by decide +kernel) (by decide +kernel) (by decide +kernel) (by rw [hR]; decide) (by rw [hR]; decide) d_op_init_31 ?_
  show cX K 4 80 _ (xl_54 K.1) 33 [some (br 18)] [br 22, br 18]
  refine c_putF (k := 18) (i := 3) (fs := [(cr K.1 19), (cr K.1 20), (cr K.1 21), cu, cz]) C cf_op (Nat.le_of_ble_eq_true rfl) hnm rfl rfl (by decide) rfl rfl rfl (Nat.le_of_ble_eq_true rfl) tw_115 d_op_init_33 ?_
  show cX K 4 80 _ (xl_55 K.1) 36 [some (br 18)] []
  refine c_aload_n C d_op_init_36 rfl rfl ?_
  refine c_iconst C d_op_init_37 ?_
  refine c_put (k := 18) (i := 4) (fs := [(cr K.1 19), (cr K.1 20), (cr K.1 21), (cr K.1 22), cz]) C cf_op (Nat.le_of_ble_eq_true rfl) rfl (by decide) rfl rfl rfl (Nat.le_of_ble_eq_true rfl) tw_116 d_op_init_38 ?_
  show cX K 4 80 _ (xl_56 K.1) 41 [some (br 18)] []
  exact c_ret C d_op_init_41 rfl (by decide) (by decide)
def rm_k_wy_init_23 : Room := { frames := 1, cells := 3, slots := 192, locals := 20 }
set_option maxRecDepth 20000 in
set_option maxHeartbeats 4000000 in
theorem k_wy_init_23 {G : bgGl} (hG : bgOk G) (hA : cAd G) : cM G 3 192 y_wy_init (.code y_wy_init co_wy_init 1 none) rm_k_wy_init_23 [br 23] (xl_58 G) (xl_65 G) := by
  refine c_met hG hA (by decide +kernel) (bg_cat rfl) (Nat.le_of_ble_eq_true rfl) ?_
  intro K hK hR hk hnm C
  subst hK
  show cX K 0 0 _ (xl_58 K.1) 0 [some (br 23)] []
  refine c_aload_n C d_wy_init_0 rfl rfl ?_
  refine c_objInit C tw_187 t_oi_i t_oi_c rfl (by rw [hR]; decide) (Nat.le_of_ble_eq_true rfl) (by rw [hR]; decide) d_wy_init_1 ?_
  refine c_aload_n C d_wy_init_4 rfl rfl ?_
  refine c_bipush C d_wy_init_5 (by decide +kernel) ?_
  refine c_newa (atype := .int) (ty := .int) (k := 24) (N' := 64) (a0 := (64, .inl (fun _ => 0))) C 0 rfl rfl (fun _ _ h => h) hk rfl (Nat.le_of_ble_eq_true rfl) rfl tw_99 (fun cA => c_d0 cA _) (by decide +kernel) (by decide +kernel) (by decide +kernel) (by rw [hR]; decide) (by rw [hR]; decide) d_wy_init_7 ?_
  show cX K 1 64 _ (xl_59 K.1) 9 [some (br 23)] [br 24, br 23]
  refine c_putF (k := 23) (i := 0) (fs := [cu, cu, cu, cz]) C cf_wy (Nat.le_of_ble_eq_true rfl) hnm rfl rfl (by decide) rfl rfl rfl (Nat.le_of_ble_eq_true rfl) tw_188 d_wy_init_9 ?_
  show cX K 1 64 _ (xl_60 K.1) 12 [some (br 23)] []
  refine c_aload_n C d_wy_init_12 rfl rfl ?_
  refine c_bipush C d_wy_init_13 (by decide +kernel) ?_
  refine c_newa (atype := .int) (ty := .int) (k := 25) (N' := 64) (a0 := (64, .inl (fun _ => 0))) C 0 rfl rfl (fun _ _ h => h) hk rfl (Nat.le_of_ble_eq_true rfl) rfl tw_99 (fun cA => c_d0 cA _) (by decide +kernel) (by decide +kernel) (by decide +kernel) (by rw [hR]; decide) (by rw [hR]; decide) d_wy_init_15 ?_
  show cX K 2 128 _ (xl_61 K.1) 17 [some (br 23)] [br 25, br 23]
  refine c_putF (k := 23) (i := 1) (fs := [(cr K.1 24), cu, cu, cz]) C cf_wy (Nat.le_of_ble_eq_true rfl) hnm rfl rfl (by decide) rfl rfl rfl (Nat.le_of_ble_eq_true rfl) tw_190 d_wy_init_17 ?_
  show cX K 2 128 _ (xl_62 K.1) 20 [some (br 23)] []
  refine c_aload_n C d_wy_init_20 rfl rfl ?_
  refine c_bipush C d_wy_init_21 (by decide +kernel) ?_
  refine c_newa (atype := .int) (ty := .int) (k := 26) (N' := 64) (a0 := (64, .inl (fun _ => 0))) C 0 rfl rfl (fun _ _ h => h) hk rfl (Nat.le_of_ble_eq_true rfl) rfl tw_99 (fun cA => c_d0 cA _) (by decide +kernel) (by decide +kernel) (by decide +kernel) (by rw [hR]; decide) (by rw [hR]; decide) d_wy_init_23 ?_
  show cX K 3 192 _ (xl_63 K.1) 25 [some (br 23)] [br 26, br 23]
  refine c_putF (k := 23) (i := 2) (fs := [(cr K.1 24), (cr K.1 25), cu, cz]) C cf_wy (Nat.le_of_ble_eq_true rfl) hnm rfl rfl (by decide) rfl rfl rfl (Nat.le_of_ble_eq_true rfl) tw_192 d_wy_init_25 ?_
  show cX K 3 192 _ (xl_64 K.1) 28 [some (br 23)] []
  refine c_aload_n C d_wy_init_28 rfl rfl ?_
  refine c_iconst C d_wy_init_29 ?_
  refine c_put (k := 23) (i := 3) (fs := [(cr K.1 24), (cr K.1 25), (cr K.1 26), cz]) C cf_wy (Nat.le_of_ble_eq_true rfl) rfl (by decide) rfl rfl rfl (Nat.le_of_ble_eq_true rfl) tw_193 d_wy_init_30 ?_
  show cX K 3 192 _ (xl_65 K.1) 33 [some (br 23)] []
  exact c_ret C d_wy_init_33 rfl (by decide) (by decide)
def rm_k_bg_init_0 : Room := { frames := 3, cells := 26, slots := 1636, locals := 62 }
set_option maxRecDepth 20000 in
set_option maxHeartbeats 4000000 in
theorem k_bg_init_0 {G : bgGl} (hG : bgOk G) (hA : cAd G) : cM G 26 1636 y_bg_init (.code y_bg_init co_bg_init 1 none) rm_k_bg_init_0 [br 0] (xl_0 G) (xl_69 G) := by
  refine c_met hG hA (by decide +kernel) (bg_cat rfl) (Nat.le_of_ble_eq_true rfl) ?_
  intro K hK hR hk hnm C
  subst hK
  show cX K 0 0 _ (xl_0 K.1) 0 [some (br 0)] []
  refine c_aload_n C d_bg_init_0 rfl rfl ?_
  refine c_objInit C tw_59 t_oi_i t_oi_c rfl (by rw [hR]; decide) (Nat.le_of_ble_eq_true rfl) (by rw [hR]; decide) d_bg_init_1 ?_
  refine c_aload_n C d_bg_init_4 rfl rfl ?_
  refine c_new (k := 1) (fs := [cz, cz]) C cf_pw hk rfl (Nat.le_of_ble_eq_true rfl) rfl tw_62 tw_63 tw_36 (fun j hj => by rcases (show j = 0 ∨ j = 1 by omega) with rfl | rfl <;> rfl) (by rw [hR]; decide) (by rw [hR]; decide) d_bg_init_5 ?_
  show cX K 1 2 _ (xl_1 K.1) 8 [some (br 0)] [br 1, br 0]
  refine c_dup C d_bg_init_8 rfl ?_
  refine c_call C hk rfl (Nat.le_of_ble_eq_true rfl) (k_pw_init_1 hG hA) (c_invIN C rfl tw_64 ti_pw_init tc_pw_init tw_36 ⟨by decide, by decide⟩ (nA := 0) (by decide +kernel) rfl d_bg_init_9 rfl) rfl (by rw [hR]; exact ⟨by decide, by decide⟩) (by rw [hR]; exact ⟨by decide, by decide⟩) (Nat.le_of_ble_eq_true rfl) rfl ?_
  show cX K 1 2 _ (xl_3 K.1) 12 [some (br 0)] [br 1, br 0]
  refine c_putF (k := 0) (i := 0) (fs := [cu, cu, cu, cu, cu, cu, cz, cz, cz]) C cf_bg (Nat.le_of_ble_eq_true rfl) hnm rfl rfl (by decide) rfl rfl rfl (Nat.le_of_ble_eq_true rfl) tw_204 d_bg_init_12 ?_
  show cX K 1 2 _ (xl_4 K.1) 15 [some (br 0)] []
  refine c_aload_n C d_bg_init_15 rfl rfl ?_
  refine c_new (k := 2) (fs := [cu, cz, cz, cz]) C cf_hd hk rfl (Nat.le_of_ble_eq_true rfl) rfl tw_77 tw_78 tw_37 (fun j hj => by rcases (show j = 0 ∨ j = 1 ∨ j = 2 ∨ j = 3 by omega) with rfl | rfl | rfl | rfl <;> rfl) (by rw [hR]; decide) (by rw [hR]; decide) d_bg_init_16 ?_
  show cX K 2 6 _ (xl_5 K.1) 19 [some (br 0)] [br 2, br 0]
  refine c_dup C d_bg_init_19 rfl ?_
  refine c_call C hk rfl (Nat.le_of_ble_eq_true rfl) (k_hd_init_2 hG hA) (c_invIN C rfl tw_79 ti_hd_init tc_hd_init tw_37 ⟨by decide, by decide⟩ (nA := 0) (by decide +kernel) rfl d_bg_init_20 rfl) rfl (by rw [hR]; exact ⟨by decide, by decide⟩) (by rw [hR]; exact ⟨by decide, by decide⟩) (Nat.le_of_ble_eq_true rfl) rfl ?_
  show cX K 3 56 _ (xl_10 K.1) 23 [some (br 0)] [br 2, br 0]
  refine c_putF (k := 0) (i := 1) (fs := [(cr K.1 1), cu, cu, cu, cu, cu, cz, cz, cz]) C cf_bg (Nat.le_of_ble_eq_true rfl) hnm rfl rfl (by decide) rfl rfl rfl (Nat.le_of_ble_eq_true rfl) tw_205 d_bg_init_23 ?_
  show cX K 3 56 _ (xl_11 K.1) 26 [some (br 0)] []
  refine c_aload_n C d_bg_init_26 rfl rfl ?_
  refine c_new (k := 4) (fs := [cu, cu, cu, cu, cz, cz]) C cf_so hk rfl (Nat.le_of_ble_eq_true rfl) rfl tw_100 tw_101 tw_38 (fun j hj => by rcases (show j = 0 ∨ j = 1 ∨ j = 2 ∨ j = 3 ∨ j = 4 ∨ j = 5 by omega) with rfl | rfl | rfl | rfl | rfl | rfl <;> rfl) (by rw [hR]; decide) (by rw [hR]; decide) d_bg_init_27 ?_
  show cX K 4 62 _ (xl_12 K.1) 30 [some (br 0)] [br 4, br 0]
  refine c_dup C d_bg_init_30 rfl ?_
  refine c_aload_n C d_bg_init_31 rfl rfl ?_
  refine c_getr (k := 0) (i := 0) (j := 1) (fs := [(cr K.1 1), (cr K.1 2), cu, cu, cu, cu, cz, cz, cz]) C cf_bg rfl (by decide) rfl tw_204 d_bg_init_32 ?_
  refine c_aload_n C d_bg_init_35 rfl rfl ?_
  refine c_getr (k := 0) (i := 1) (j := 2) (fs := [(cr K.1 1), (cr K.1 2), cu, cu, cu, cu, cz, cz, cz]) C cf_bg rfl (by decide) rfl tw_205 d_bg_init_36 ?_
  refine c_call C hk rfl (Nat.le_of_ble_eq_true rfl) (k_so_init_4 hG hA) (c_invI C rfl tw_102 ti_so_init tc_so_init tw_38 ⟨by decide, by decide⟩ (nA := 2) (by decide +kernel) rfl d_bg_init_39 rfl) rfl (by rw [hR]; exact ⟨by decide, by decide⟩) (by rw [hR]; exact ⟨by decide, by decide⟩) (Nat.le_of_ble_eq_true rfl) rfl ?_
  show cX K 13 751 _ (xl_36 K.1) 42 [some (br 0)] [br 4, br 0]
  refine c_putF (k := 0) (i := 2) (fs := [(cr K.1 1), (cr K.1 2), cu, cu, cu, cu, cz, cz, cz]) C cf_bg (Nat.le_of_ble_eq_true rfl) hnm rfl rfl (by decide) rfl rfl rfl (Nat.le_of_ble_eq_true rfl) tw_206 d_bg_init_42 ?_
  show cX K 13 751 _ (xl_37 K.1) 45 [some (br 0)] []
  refine c_aload_n C d_bg_init_45 rfl rfl ?_
  refine c_new (k := 14) (fs := [cu, cu, cu, cz]) C cf_et hk rfl (Nat.le_of_ble_eq_true rfl) rfl tw_178 tw_131 tw_40 (fun j hj => by rcases (show j = 0 ∨ j = 1 ∨ j = 2 ∨ j = 3 by omega) with rfl | rfl | rfl | rfl <;> rfl) (by rw [hR]; decide) (by rw [hR]; decide) d_bg_init_46 ?_
  show cX K 14 755 _ (xl_38 K.1) 49 [some (br 0)] [br 14, br 0]
  refine c_dup C d_bg_init_49 rfl ?_
  refine c_call C hk rfl (Nat.le_of_ble_eq_true rfl) (k_et_init_14 hG hA) (c_invIN C rfl tw_179 ti_et_init tc_et_init tw_40 ⟨by decide, by decide⟩ (nA := 0) (by decide +kernel) rfl d_bg_init_50 rfl) rfl (by rw [hR]; exact ⟨by decide, by decide⟩) (by rw [hR]; exact ⟨by decide, by decide⟩) (Nat.le_of_ble_eq_true rfl) rfl ?_
  show cX K 17 1355 _ (xl_45 K.1) 53 [some (br 0)] [br 14, br 0]
  refine c_putF (k := 0) (i := 3) (fs := [(cr K.1 1), (cr K.1 2), (cr K.1 4), cu, cu, cu, cz, cz, cz]) C cf_bg (Nat.le_of_ble_eq_true rfl) hnm rfl rfl (by decide) rfl rfl rfl (Nat.le_of_ble_eq_true rfl) tw_207 d_bg_init_53 ?_
  show cX K 17 1355 _ (xl_46 K.1) 56 [some (br 0)] []
  refine c_aload_n C d_bg_init_56 rfl rfl ?_
  refine c_new (k := 18) (fs := [cu, cu, cu, cu, cz]) C cf_op hk rfl (Nat.le_of_ble_eq_true rfl) rfl tw_180 tw_107 tw_39 (fun j hj => by rcases (show j = 0 ∨ j = 1 ∨ j = 2 ∨ j = 3 ∨ j = 4 by omega) with rfl | rfl | rfl | rfl | rfl <;> rfl) (by rw [hR]; decide) (by rw [hR]; decide) d_bg_init_57 ?_
  show cX K 18 1360 _ (xl_47 K.1) 60 [some (br 0)] [br 18, br 0]
  refine c_dup C d_bg_init_60 rfl ?_
  refine c_call C hk rfl (Nat.le_of_ble_eq_true rfl) (k_op_init_18 hG hA) (c_invIN C rfl tw_181 ti_op_init tc_op_init tw_39 ⟨by decide, by decide⟩ (nA := 0) (by decide +kernel) rfl d_bg_init_61 rfl) rfl (by rw [hR]; exact ⟨by decide, by decide⟩) (by rw [hR]; exact ⟨by decide, by decide⟩) (Nat.le_of_ble_eq_true rfl) rfl ?_
  show cX K 22 1440 _ (xl_56 K.1) 64 [some (br 0)] [br 18, br 0]
  refine c_putF (k := 0) (i := 4) (fs := [(cr K.1 1), (cr K.1 2), (cr K.1 4), (cr K.1 14), cu, cu, cz, cz, cz]) C cf_bg (Nat.le_of_ble_eq_true rfl) hnm rfl rfl (by decide) rfl rfl rfl (Nat.le_of_ble_eq_true rfl) tw_208 d_bg_init_64 ?_
  show cX K 22 1440 _ (xl_57 K.1) 67 [some (br 0)] []
  refine c_aload_n C d_bg_init_67 rfl rfl ?_
  refine c_new (k := 23) (fs := [cu, cu, cu, cz]) C cf_wy hk rfl (Nat.le_of_ble_eq_true rfl) rfl tw_182 tw_183 tw_41 (fun j hj => by rcases (show j = 0 ∨ j = 1 ∨ j = 2 ∨ j = 3 by omega) with rfl | rfl | rfl | rfl <;> rfl) (by rw [hR]; decide) (by rw [hR]; decide) d_bg_init_68 ?_
  show cX K 23 1444 _ (xl_58 K.1) 71 [some (br 0)] [br 23, br 0]
  refine c_dup C d_bg_init_71 rfl ?_
  refine c_call C hk rfl (Nat.le_of_ble_eq_true rfl) (k_wy_init_23 hG hA) (c_invIN C rfl tw_184 ti_wy_init tc_wy_init tw_41 ⟨by decide, by decide⟩ (nA := 0) (by decide +kernel) rfl d_bg_init_72 rfl) rfl (by rw [hR]; exact ⟨by decide, by decide⟩) (by rw [hR]; exact ⟨by decide, by decide⟩) (Nat.le_of_ble_eq_true rfl) rfl ?_
  show cX K 26 1636 _ (xl_65 K.1) 75 [some (br 0)] [br 23, br 0]
  refine c_putF (k := 0) (i := 5) (fs := [(cr K.1 1), (cr K.1 2), (cr K.1 4), (cr K.1 14), (cr K.1 18), cu, cz, cz, cz]) C cf_bg (Nat.le_of_ble_eq_true rfl) hnm rfl rfl (by decide) rfl rfl rfl (Nat.le_of_ble_eq_true rfl) tw_209 d_bg_init_75 ?_
  show cX K 26 1636 _ (xl_66 K.1) 78 [some (br 0)] []
  refine c_aload_n C d_bg_init_78 rfl rfl ?_
  refine c_iconst C d_bg_init_79 ?_
  refine c_put (k := 0) (i := 6) (fs := [(cr K.1 1), (cr K.1 2), (cr K.1 4), (cr K.1 14), (cr K.1 18), (cr K.1 23), cz, cz, cz]) C cf_bg (Nat.le_of_ble_eq_true rfl) rfl (by decide) rfl rfl rfl (Nat.le_of_ble_eq_true rfl) tw_210 d_bg_init_80 ?_
  show cX K 26 1636 _ (xl_67 K.1) 83 [some (br 0)] []
  refine c_aload_n C d_bg_init_83 rfl rfl ?_
  refine c_iconst C d_bg_init_84 ?_
  refine c_put (k := 0) (i := 7) (fs := [(cr K.1 1), (cr K.1 2), (cr K.1 4), (cr K.1 14), (cr K.1 18), (cr K.1 23), (cn 0), cz, cz]) C cf_bg (Nat.le_of_ble_eq_true rfl) rfl (by decide) rfl rfl rfl (Nat.le_of_ble_eq_true rfl) tw_211 d_bg_init_85 ?_
  show cX K 26 1636 _ (xl_68 K.1) 88 [some (br 0)] []
  refine c_aload_n C d_bg_init_88 rfl rfl ?_
  refine c_iconst C d_bg_init_89 ?_
  refine c_put (k := 0) (i := 8) (fs := [(cr K.1 1), (cr K.1 2), (cr K.1 4), (cr K.1 14), (cr K.1 18), (cr K.1 23), (cn 0), (cn 0), cz]) C cf_bg (Nat.le_of_ble_eq_true rfl) rfl (by decide) rfl rfl rfl (Nat.le_of_ble_eq_true rfl) tw_212 d_bg_init_90 ?_
  show cX K 26 1636 _ (xl_69 K.1) 93 [some (br 0)] []
  exact c_ret C d_bg_init_93 rfl (by decide) (by decide)
def rm_k_mo_clear : Room := { frames := 0, cells := 0, slots := 0, locals := 0 }
set_option maxRecDepth 20000 in
set_option maxHeartbeats 4000000 in
theorem k_mo_clear {G : bgGl} (hG : bgOk G) (hA : cAd G) : cM G 0 0 y_mo_clear (.code y_mo_clear co_mo_clear 2 none) rm_k_mo_clear [br 27] (xl_90 G) (xl_92 G) := by
  refine c_met hG hA (by decide +kernel) (bg_cat rfl) (Nat.le_of_ble_eq_true rfl) ?_
  intro K hK hR hk hnm C
  subst hK
  have key : ∀ (m i : Nat), i + m = 400 → cX K 0 0 (cQ K 0 0 (xl_92 K.1)) (xc K.1 (clF i)) 2 [some (br 27), some (bi (i : Int))] [] := by
    intro m
    induction m with
    | zero =>
      intro i hi
      refine c_iload_n C d_mo_clear_2 rfl rfl ?_
      refine c_sipush C d_mo_clear_3 (by decide +kernel) ?_
      refine c_icmp_ge (tgt := 22) C d_mo_clear_6 (by decide) ⟨by omega, by omega⟩ ⟨by omega, by omega⟩ (fun h => ?_) (fun h => by exfalso; omega)
      have e : i = 400 := by omega
      subst e
      exact c_ret C d_mo_clear_22 rfl (by decide) (by decide)
    | succ m ih =>
      intro i hi
      refine c_iload_n C d_mo_clear_2 rfl rfl ?_
      refine c_sipush C d_mo_clear_3 (by decide +kernel) ?_
      refine c_icmp_ge (tgt := 22) C d_mo_clear_6 (by decide) ⟨by omega, by omega⟩ ⟨by omega, by omega⟩ (fun h => by exfalso; omega) (fun h => ?_)
      refine c_aload_n C d_mo_clear_9 rfl rfl ?_
      refine c_getr (k := 27) (i := 1) (j := 28) (fs := [cz, (cr K.1 28), (cr K.1 29), (cr K.1 30), cz, (cn 1), cz, cz, (cr K.1 31), (cr K.1 32), cz, cz, cz, (cn (-1)), cz, cz, (cr K.1 33), cz, (cn 8), (cn 1), cz, (cr K.1 34), (cr K.1 35)]) C cf_mo rfl (by decide) rfl tw_678 d_mo_clear_10 ?_
      refine c_iload_n C d_mo_clear_13 rfl rfl ?_
      refine c_iconst C d_mo_clear_14 ?_
      refine c_iast (k := 28) (len := 400) (f := clF i) C (Nat.le_of_ble_eq_true rfl) rfl (by omega) (by omega) (by decide) d_mo_clear_15 ?_
      rw [Int.toNat_natCast, clF_s]
      refine c_iinc C d_mo_clear_16 rfl ?_
      refine c_goto (l := 2) C d_mo_clear_19 (by decide) ?_
      have k9 := ih (i + 1) (by omega)
      rw [show ((i + 1 : Nat) : Int) = (i : Int) + 1 by omega] at k9
      exact k9
  show cX K 0 0 _ (xc K.1 (fun _ => 0)) 0 [some (br 27), none] []
  refine c_iconst C d_mo_clear_0 ?_
  refine c_istore_n C d_mo_clear_1 rfl (Nat.le_of_ble_eq_true rfl) ?_
  have k9 := key 400 0 rfl
  rw [clF_0] at k9
  exact k9
def rm_k_mo_init_27 : Room := { frames := 1, cells := 8, slots := 1479, locals := 21 }
set_option maxRecDepth 20000 in
set_option maxHeartbeats 4000000 in
theorem k_mo_init_27 {G : bgGl} (hG : bgOk G) (hA : cAd G) : cM G 8 1479 y_mo_init (.code y_mo_init co_mo_init 1 none) rm_k_mo_init_27 [br 27] (xl_70 G) (xl_92 G) := by
  refine c_met hG hA (by decide +kernel) (bg_cat rfl) (Nat.le_of_ble_eq_true rfl) ?_
  intro K hK hR hk hnm C
  subst hK
  show cX K 0 0 _ (xl_70 K.1) 0 [some (br 27)] []
  refine c_aload_n C d_mo_init_0 rfl rfl ?_
  refine c_objInit C tw_672 t_oi_i t_oi_c rfl (by rw [hR]; decide) (Nat.le_of_ble_eq_true rfl) (by rw [hR]; decide) d_mo_init_1 ?_
  refine c_aload_n C d_mo_init_4 rfl rfl ?_
  refine c_sipush C d_mo_init_5 (by decide +kernel) ?_
  refine c_newa (atype := .int) (ty := .int) (k := 28) (N' := 400) (a0 := (400, .inl (fun _ => 0))) C 0 rfl rfl (fun _ _ h => h) hk rfl (Nat.le_of_ble_eq_true rfl) rfl tw_99 (fun cA => c_d0 cA _) (by decide +kernel) (by decide +kernel) (by decide +kernel) (by rw [hR]; decide) (by rw [hR]; decide) d_mo_init_8 ?_
  show cX K 1 400 _ (xl_71 K.1) 10 [some (br 27)] [br 28, br 27]
  refine c_putF (k := 27) (i := 1) (fs := [cz, cu, cu, cu, cz, cz, cz, cz, cu, cu, cz, cz, cz, cz, cz, cz, cu, cz, cz, cz, cz, cu, cu]) C cf_mo (Nat.le_of_ble_eq_true rfl) hnm rfl rfl (by decide) rfl rfl rfl (Nat.le_of_ble_eq_true rfl) tw_678 d_mo_init_10 ?_
  show cX K 1 400 _ (xl_72 K.1) 13 [some (br 27)] []
  refine c_aload_n C d_mo_init_13 rfl rfl ?_
  refine c_sipush C d_mo_init_14 (by decide +kernel) ?_
  refine c_newa (atype := .int) (ty := .int) (k := 29) (N' := 400) (a0 := (400, .inl (fun _ => 0))) C 0 rfl rfl (fun _ _ h => h) hk rfl (Nat.le_of_ble_eq_true rfl) rfl tw_99 (fun cA => c_d0 cA _) (by decide +kernel) (by decide +kernel) (by decide +kernel) (by rw [hR]; decide) (by rw [hR]; decide) d_mo_init_17 ?_
  show cX K 2 800 _ (xl_73 K.1) 19 [some (br 27)] [br 29, br 27]
  refine c_putF (k := 27) (i := 2) (fs := [cz, (cr K.1 28), cu, cu, cz, cz, cz, cz, cu, cu, cz, cz, cz, cz, cz, cz, cu, cz, cz, cz, cz, cu, cu]) C cf_mo (Nat.le_of_ble_eq_true rfl) hnm rfl rfl (by decide) rfl rfl rfl (Nat.le_of_ble_eq_true rfl) tw_679 d_mo_init_19 ?_
  show cX K 2 800 _ (xl_74 K.1) 22 [some (br 27)] []
  refine c_aload_n C d_mo_init_22 rfl rfl ?_
  refine c_sipush C d_mo_init_23 (by decide +kernel) ?_
  refine c_newa (atype := .int) (ty := .int) (k := 30) (N' := 400) (a0 := (400, .inl (fun _ => 0))) C 0 rfl rfl (fun _ _ h => h) hk rfl (Nat.le_of_ble_eq_true rfl) rfl tw_99 (fun cA => c_d0 cA _) (by decide +kernel) (by decide +kernel) (by decide +kernel) (by rw [hR]; decide) (by rw [hR]; decide) d_mo_init_26 ?_
  show cX K 3 1200 _ (xl_75 K.1) 28 [some (br 27)] [br 30, br 27]
  refine c_putF (k := 27) (i := 3) (fs := [cz, (cr K.1 28), (cr K.1 29), cu, cz, cz, cz, cz, cu, cu, cz, cz, cz, cz, cz, cz, cu, cz, cz, cz, cz, cu, cu]) C cf_mo (Nat.le_of_ble_eq_true rfl) hnm rfl rfl (by decide) rfl rfl rfl (Nat.le_of_ble_eq_true rfl) tw_680 d_mo_init_28 ?_
  show cX K 3 1200 _ (xl_76 K.1) 31 [some (br 27)] []
  refine c_aload_n C d_mo_init_31 rfl rfl ?_
  refine c_iconst C d_mo_init_32 ?_
  refine c_put (k := 27) (i := 5) (fs := [cz, (cr K.1 28), (cr K.1 29), (cr K.1 30), cz, cz, cz, cz, cu, cu, cz, cz, cz, cz, cz, cz, cu, cz, cz, cz, cz, cu, cu]) C cf_mo (Nat.le_of_ble_eq_true rfl) rfl (by decide) rfl rfl rfl (Nat.le_of_ble_eq_true rfl) tw_682 d_mo_init_33 ?_
  show cX K 3 1200 _ (xl_77 K.1) 36 [some (br 27)] []
  refine c_aload_n C d_mo_init_36 rfl rfl ?_
  refine c_bipush C d_mo_init_37 (by decide +kernel) ?_
  refine c_newa (atype := .boolean) (ty := .boolean) (k := 31) (N' := 50) (a0 := (50, .inl (fun _ => 0))) C 1 rfl rfl (fun _ _ h => h) hk rfl (Nat.le_of_ble_eq_true rfl) rfl tw_747 (fun cA => c_d1 cA _) (by decide +kernel) (by decide +kernel) (by decide +kernel) (by rw [hR]; decide) (by rw [hR]; decide) d_mo_init_39 ?_
  show cX K 4 1250 _ (xl_78 K.1) 41 [some (br 27)] [br 31, br 27]
  refine c_putF (k := 27) (i := 8) (fs := [cz, (cr K.1 28), (cr K.1 29), (cr K.1 30), cz, (cn 1), cz, cz, cu, cu, cz, cz, cz, cz, cz, cz, cu, cz, cz, cz, cz, cu, cu]) C cf_mo (Nat.le_of_ble_eq_true rfl) hnm rfl rfl (by decide) rfl rfl rfl (Nat.le_of_ble_eq_true rfl) tw_685 d_mo_init_41 ?_
  show cX K 4 1250 _ (xl_79 K.1) 44 [some (br 27)] []
  refine c_aload_n C d_mo_init_44 rfl rfl ?_
  refine c_bipush C d_mo_init_45 (by decide +kernel) ?_
  refine c_newa (atype := .boolean) (ty := .boolean) (k := 32) (N' := 50) (a0 := (50, .inl (fun _ => 0))) C 1 rfl rfl (fun _ _ h => h) hk rfl (Nat.le_of_ble_eq_true rfl) rfl tw_747 (fun cA => c_d1 cA _) (by decide +kernel) (by decide +kernel) (by decide +kernel) (by rw [hR]; decide) (by rw [hR]; decide) d_mo_init_47 ?_
  show cX K 5 1300 _ (xl_80 K.1) 49 [some (br 27)] [br 32, br 27]
  refine c_putF (k := 27) (i := 9) (fs := [cz, (cr K.1 28), (cr K.1 29), (cr K.1 30), cz, (cn 1), cz, cz, (cr K.1 31), cu, cz, cz, cz, cz, cz, cz, cu, cz, cz, cz, cz, cu, cu]) C cf_mo (Nat.le_of_ble_eq_true rfl) hnm rfl rfl (by decide) rfl rfl rfl (Nat.le_of_ble_eq_true rfl) tw_686 d_mo_init_49 ?_
  show cX K 5 1300 _ (xl_81 K.1) 52 [some (br 27)] []
  refine c_aload_n C d_mo_init_52 rfl rfl ?_
  refine c_iconst C d_mo_init_53 ?_
  refine c_put (k := 27) (i := 13) (fs := [cz, (cr K.1 28), (cr K.1 29), (cr K.1 30), cz, (cn 1), cz, cz, (cr K.1 31), (cr K.1 32), cz, cz, cz, cz, cz, cz, cu, cz, cz, cz, cz, cu, cu]) C cf_mo (Nat.le_of_ble_eq_true rfl) rfl (by decide) rfl rfl rfl (Nat.le_of_ble_eq_true rfl) tw_690 d_mo_init_54 ?_
  show cX K 5 1300 _ (xl_82 K.1) 57 [some (br 27)] []
  refine c_aload_n C d_mo_init_57 rfl rfl ?_
  refine c_bipush C d_mo_init_58 (by decide +kernel) ?_
  refine c_newa (atype := .int) (ty := .int) (k := 33) (N' := 51) (a0 := (51, .inl (fun _ => 0))) C 0 rfl rfl (fun _ _ h => h) hk rfl (Nat.le_of_ble_eq_true rfl) rfl tw_99 (fun cA => c_d0 cA _) (by decide +kernel) (by decide +kernel) (by decide +kernel) (by rw [hR]; decide) (by rw [hR]; decide) d_mo_init_60 ?_
  show cX K 6 1351 _ (xl_83 K.1) 62 [some (br 27)] [br 33, br 27]
  refine c_putF (k := 27) (i := 16) (fs := [cz, (cr K.1 28), (cr K.1 29), (cr K.1 30), cz, (cn 1), cz, cz, (cr K.1 31), (cr K.1 32), cz, cz, cz, (cn (-1)), cz, cz, cu, cz, cz, cz, cz, cu, cu]) C cf_mo (Nat.le_of_ble_eq_true rfl) hnm rfl rfl (by decide) rfl rfl rfl (Nat.le_of_ble_eq_true rfl) tw_693 d_mo_init_62 ?_
  show cX K 6 1351 _ (xl_84 K.1) 65 [some (br 27)] []
  refine c_aload_n C d_mo_init_65 rfl rfl ?_
  refine c_bipush C d_mo_init_66 (by decide +kernel) ?_
  refine c_put (k := 27) (i := 18) (fs := [cz, (cr K.1 28), (cr K.1 29), (cr K.1 30), cz, (cn 1), cz, cz, (cr K.1 31), (cr K.1 32), cz, cz, cz, (cn (-1)), cz, cz, (cr K.1 33), cz, cz, cz, cz, cu, cu]) C cf_mo (Nat.le_of_ble_eq_true rfl) rfl (by decide) rfl rfl rfl (Nat.le_of_ble_eq_true rfl) tw_695 d_mo_init_68 ?_
  show cX K 6 1351 _ (xl_85 K.1) 71 [some (br 27)] []
  refine c_aload_n C d_mo_init_71 rfl rfl ?_
  refine c_iconst C d_mo_init_72 ?_
  refine c_put (k := 27) (i := 19) (fs := [cz, (cr K.1 28), (cr K.1 29), (cr K.1 30), cz, (cn 1), cz, cz, (cr K.1 31), (cr K.1 32), cz, cz, cz, (cn (-1)), cz, cz, (cr K.1 33), cz, (cn 8), cz, cz, cu, cu]) C cf_mo (Nat.le_of_ble_eq_true rfl) rfl (by decide) rfl rfl rfl (Nat.le_of_ble_eq_true rfl) tw_696 d_mo_init_73 ?_
  show cX K 6 1351 _ (xl_86 K.1) 76 [some (br 27)] []
  refine c_aload_n C d_mo_init_76 rfl rfl ?_
  refine c_bipush C d_mo_init_77 (by decide +kernel) ?_
  refine c_newa (atype := .int) (ty := .int) (k := 34) (N' := 64) (a0 := (64, .inl (fun _ => 0))) C 0 rfl rfl (fun _ _ h => h) hk rfl (Nat.le_of_ble_eq_true rfl) rfl tw_99 (fun cA => c_d0 cA _) (by decide +kernel) (by decide +kernel) (by decide +kernel) (by rw [hR]; decide) (by rw [hR]; decide) d_mo_init_79 ?_
  show cX K 7 1415 _ (xl_87 K.1) 81 [some (br 27)] [br 34, br 27]
  refine c_putF (k := 27) (i := 21) (fs := [cz, (cr K.1 28), (cr K.1 29), (cr K.1 30), cz, (cn 1), cz, cz, (cr K.1 31), (cr K.1 32), cz, cz, cz, (cn (-1)), cz, cz, (cr K.1 33), cz, (cn 8), (cn 1), cz, cu, cu]) C cf_mo (Nat.le_of_ble_eq_true rfl) hnm rfl rfl (by decide) rfl rfl rfl (Nat.le_of_ble_eq_true rfl) tw_698 d_mo_init_81 ?_
  show cX K 7 1415 _ (xl_88 K.1) 84 [some (br 27)] []
  refine c_aload_n C d_mo_init_84 rfl rfl ?_
  refine c_bipush C d_mo_init_85 (by decide +kernel) ?_
  refine c_newa (atype := .int) (ty := .int) (k := 35) (N' := 64) (a0 := (64, .inl (fun _ => 0))) C 0 rfl rfl (fun _ _ h => h) hk rfl (Nat.le_of_ble_eq_true rfl) rfl tw_99 (fun cA => c_d0 cA _) (by decide +kernel) (by decide +kernel) (by decide +kernel) (by rw [hR]; decide) (by rw [hR]; decide) d_mo_init_87 ?_
  show cX K 8 1479 _ (xl_89 K.1) 89 [some (br 27)] [br 35, br 27]
  refine c_putF (k := 27) (i := 22) (fs := [cz, (cr K.1 28), (cr K.1 29), (cr K.1 30), cz, (cn 1), cz, cz, (cr K.1 31), (cr K.1 32), cz, cz, cz, (cn (-1)), cz, cz, (cr K.1 33), cz, (cn 8), (cn 1), cz, (cr K.1 34), cu]) C cf_mo (Nat.le_of_ble_eq_true rfl) hnm rfl rfl (by decide) rfl rfl rfl (Nat.le_of_ble_eq_true rfl) tw_699 d_mo_init_89 ?_
  show cX K 8 1479 _ (xl_90 K.1) 92 [some (br 27)] []
  refine c_aload_n C d_mo_init_92 rfl rfl ?_
  refine c_call C hk rfl (Nat.le_of_ble_eq_true rfl) (k_mo_clear hG hA) (c_invV C cf_mo rfl tw_673 ti_mo_clear ts_mo_clear tc_mo_clear tw_42 ⟨by decide, by decide⟩ (nA := 0) (by decide +kernel) rfl d_mo_init_93 rfl) rfl (by rw [hR]; exact ⟨by decide, by decide⟩) (by rw [hR]; exact ⟨by decide, by decide⟩) (Nat.le_of_ble_eq_true rfl) rfl ?_
  show cX K 8 1479 _ (xl_92 K.1) 96 [some (br 27)] []
  exact c_ret C d_mo_init_96 rfl (by decide) (by decide)
