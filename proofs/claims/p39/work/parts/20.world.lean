/-! The world as a picture: every field, every array a symbol of its own -/
def bsSl : List (List (List AC)) := [[[.inr (11, [aR (some 1), aR (some 3), aR (some 19), aR (some 25), aR (some 31), aR (some 41), aR (some 46), aR (some 54), aR (some 61), aR (some 67), aR (some 173)]), .inr (10, [aR (some 2), aS 0, aS 1, aS 2, aS 3, aS 4, aS 5, aS 6, aS 7, aS 8]), .inl (0, 200, .inr (0, 0, 0)), .inr (9, [aS 9, aR (some 4), aR (some 5), aR (some 6), aR (some 7), aR (some 8), aR (some 9), aR (some 10), aS 10, aR (some 11), aR (some 12), aR (some 13), aR (some 14), aR (some 15), aR (some 16), aR (some 17), aR (some 18), aS 11]), .inl (0, 288, .inr (0, 0, 1)), .inl (0, 12, .inr (0, 0, 2)), .inl (1, 24, .inr (0, 0, 3)), .inl (1, 168, .inr (0, 0, 4)), .inl (1, 60, .inr (0, 0, 5)), .inl (0, 66, .inr (0, 0, 6)), .inl (1, 132, .inr (0, 0, 7)), .inl (0, 288, .inr (0, 0, 8)), .inl (0, 12, .inr (0, 0, 9)), .inl (0, 12, .inr (0, 0, 10)), .inl (0, 288, .inr (0, 0, 11)), .inl (0, 12, .inr (0, 0, 12))], [.inl (0, 12, .inr (0, 0, 13)), .inl (0, 24, .inr (0, 0, 14)), .inl (0, 24, .inr (0, 0, 15)), .inr (7, [aR (some 1), aR (some 20), aR (some 21), aS 12, aS 13, aS 14, aS 15, aR (some 22), aR (some 23), aS 16, aS 17, aS 18, aS 19, aR (some 24)]), .inl (0, 200, .inr (0, 0, 16)), .inl (0, 8, .inr (0, 0, 17)), .inl (0, 200, .inr (0, 0, 18)), .inl (0, 8, .inr (0, 0, 19)), .inl (0, 200, .inr (0, 0, 20)), .inr (3, [aR (some 26), aR (some 27), aR (some 28), aR (some 29), aR (some 30), aS 20, aS 21]), .inl (0, 128, .inr (0, 0, 21)), .inl (1, 8, .inr (0, 0, 22)), .inl (1, 8, .inr (0, 0, 23)), .inl (0, 8, .inr (0, 0, 24)), .inl (0, 512, .inr (0, 0, 25)), .inr (0, [aR (some 3), aR (some 19), aS 22, aR (some 32), aR (some 33), aR (some 34), aR (some 35), aS 23, aR (some 36), aR (some 37), aR (some 38), aR (some 39), aS 24, aR (some 40)])], [.inl (0, 12, .inr (0, 0, 26)), .inl (0, 12, .inr (0, 0, 27)), .inl (0, 12, .inr (0, 0, 28)), .inl (0, 12, .inr (0, 0, 29)), .inl (0, 66, .inr (0, 0, 30)), .inl (0, 66, .inr (0, 0, 31)), .inl (0, 66, .inr (0, 0, 32)), .inl (0, 7, .inr (0, 0, 33)), .inl (0, 12, .inr (0, 0, 34)), .inr (2, [aR (some 3), aR (some 25), aR (some 31), aR (some 42), aR (some 43), aR (some 44), aR (some 45), aS 25, aS 26, aS 27]), .inl (2, 8, .inr (0, 0, 35)), .inl (0, 8, .inr (0, 0, 36)), .inl (0, 8, .inr (0, 0, 37)), .inl (2, 8, .inr (0, 0, 38)), .inr (5, [aR (some 3), aR (some 31), aR (some 47), aS 28, aR (some 48), aR (some 49), aR (some 50), aR (some 51), aR (some 52), aR (some 53), aS 29, aS 30, aS 31]), .inl (0, 8, .inr (0, 0, 39))], [.inl (2, 256, .inr (0, 0, 40)), .inl (0, 256, .inr (0, 0, 41)), .inl (0, 256, .inr (0, 0, 42)), .inl (0, 8, .inr (0, 0, 43)), .inl (0, 3, .inr (0, 0, 44)), .inl (0, 8, .inr (0, 0, 45)), .inr (4, [aR (some 3), aR (some 19), aR (some 25), aR (some 31), aR (some 55), aS 32, aS 33, aR (some 56), aR (some 57), aR (some 58), aR (some 59), aR (some 60), aS 34, aS 35]), .inl (0, 6, .inr (0, 0, 46)), .inl (0, 6, .inr (0, 0, 47)), .inl (2, 144, .inr (0, 0, 48)), .inl (0, 24, .inr (0, 0, 49)), .inl (0, 3456, .inr (0, 0, 50)), .inl (0, 24, .inr (0, 0, 51)), .inr (6, [aR (some 54), aS 36, aS 37, aR (some 62), aR (some 63), aR (some 64), aR (some 65), aR (some 66), aS 38]), .inl (0, 8, .inr (0, 0, 52)), .inl (0, 8, .inr (0, 0, 53))], [.inl (0, 8, .inr (0, 0, 54)), .inl (0, 8, .inr (0, 0, 55)), .inl (0, 24, .inr (0, 0, 56)), .inr (8, [aR (some 3), aR (some 68), aR (some 25), aR (some 84), aU 0, aU 1, aS 39, aS 40, aR (some 85), aS 41, aR (some 86), aR (some 87), aR (some 88), aS 42, aR (some 89), aR (some 90), aR (some 91), aR (some 92)]), .inr (9, [aS 43, aR (some 69), aR (some 70), aR (some 71), aR (some 72), aR (some 73), aR (some 74), aR (some 75), aS 44, aR (some 76), aR (some 77), aR (some 78), aR (some 79), aR (some 80), aR (some 81), aR (some 82), aR (some 83), aS 45]), .inl (0, 288, .inr (0, 0, 57)), .inl (0, 12, .inr (0, 0, 58)), .inl (1, 24, .inr (0, 0, 59)), .inl (1, 168, .inr (0, 0, 60)), .inl (1, 60, .inr (0, 0, 61)), .inl (0, 66, .inr (0, 0, 62)), .inl (1, 132, .inr (0, 0, 63)), .inl (0, 288, .inr (0, 0, 64)), .inl (0, 12, .inr (0, 0, 65)), .inl (0, 12, .inr (0, 0, 66)), .inl (0, 288, .inr (0, 0, 67))], [.inl (0, 12, .inr (0, 0, 68)), .inl (0, 12, .inr (0, 0, 69)), .inl (0, 24, .inr (0, 0, 70)), .inl (0, 24, .inr (0, 0, 71)), .inl (5, 8, .inl [aR (some 93), aR (some 103), aR (some 113), aR (some 123), aR (some 133), aR (some 143), aR (some 153), aR (some 163)]), .inl (0, 12, .inr (0, 0, 72)), .inl (0, 8, .inr (0, 0, 73)), .inl (0, 8, .inr (0, 0, 74)), .inl (0, 8, .inr (0, 0, 75)), .inl (0, 256, .inr (0, 0, 76)), .inl (0, 128, .inr (0, 0, 77)), .inl (0, 128, .inr (0, 0, 78)), .inl (0, 24, .inr (0, 0, 79)), .inr (0, [aR (some 68), aR (some 19), aS 46, aR (some 94), aR (some 95), aR (some 96), aR (some 97), aS 47, aR (some 98), aR (some 99), aR (some 100), aR (some 101), aS 48, aR (some 102)]), .inl (0, 12, .inr (0, 0, 80)), .inl (0, 12, .inr (0, 0, 81))], [.inl (0, 12, .inr (0, 0, 82)), .inl (0, 12, .inr (0, 0, 83)), .inl (0, 66, .inr (0, 0, 84)), .inl (0, 66, .inr (0, 0, 85)), .inl (0, 66, .inr (0, 0, 86)), .inl (0, 7, .inr (0, 0, 87)), .inl (0, 12, .inr (0, 0, 88)), .inr (0, [aR (some 68), aR (some 19), aS 49, aR (some 104), aR (some 105), aR (some 106), aR (some 107), aS 50, aR (some 108), aR (some 109), aR (some 110), aR (some 111), aS 51, aR (some 112)]), .inl (0, 12, .inr (0, 0, 89)), .inl (0, 12, .inr (0, 0, 90)), .inl (0, 12, .inr (0, 0, 91)), .inl (0, 12, .inr (0, 0, 92)), .inl (0, 66, .inr (0, 0, 93)), .inl (0, 66, .inr (0, 0, 94)), .inl (0, 66, .inr (0, 0, 95)), .inl (0, 7, .inr (0, 0, 96))], [.inl (0, 12, .inr (0, 0, 97)), .inr (0, [aR (some 68), aR (some 19), aS 52, aR (some 114), aR (some 115), aR (some 116), aR (some 117), aS 53, aR (some 118), aR (some 119), aR (some 120), aR (some 121), aS 54, aR (some 122)]), .inl (0, 12, .inr (0, 0, 98)), .inl (0, 12, .inr (0, 0, 99)), .inl (0, 12, .inr (0, 0, 100)), .inl (0, 12, .inr (0, 0, 101)), .inl (0, 66, .inr (0, 0, 102)), .inl (0, 66, .inr (0, 0, 103)), .inl (0, 66, .inr (0, 0, 104)), .inl (0, 7, .inr (0, 0, 105)), .inl (0, 12, .inr (0, 0, 106)), .inr (0, [aR (some 68), aR (some 19), aS 55, aR (some 124), aR (some 125), aR (some 126), aR (some 127), aS 56, aR (some 128), aR (some 129), aR (some 130), aR (some 131), aS 57, aR (some 132)]), .inl (0, 12, .inr (0, 0, 107)), .inl (0, 12, .inr (0, 0, 108)), .inl (0, 12, .inr (0, 0, 109)), .inl (0, 12, .inr (0, 0, 110))], [.inl (0, 66, .inr (0, 0, 111)), .inl (0, 66, .inr (0, 0, 112)), .inl (0, 66, .inr (0, 0, 113)), .inl (0, 7, .inr (0, 0, 114)), .inl (0, 12, .inr (0, 0, 115)), .inr (0, [aR (some 68), aR (some 19), aS 58, aR (some 134), aR (some 135), aR (some 136), aR (some 137), aS 59, aR (some 138), aR (some 139), aR (some 140), aR (some 141), aS 60, aR (some 142)]), .inl (0, 12, .inr (0, 0, 116)), .inl (0, 12, .inr (0, 0, 117)), .inl (0, 12, .inr (0, 0, 118)), .inl (0, 12, .inr (0, 0, 119)), .inl (0, 66, .inr (0, 0, 120)), .inl (0, 66, .inr (0, 0, 121)), .inl (0, 66, .inr (0, 0, 122)), .inl (0, 7, .inr (0, 0, 123)), .inl (0, 12, .inr (0, 0, 124)), .inr (0, [aR (some 68), aR (some 19), aS 61, aR (some 144), aR (some 145), aR (some 146), aR (some 147), aS 62, aR (some 148), aR (some 149), aR (some 150), aR (some 151), aS 63, aR (some 152)])], [.inl (0, 12, .inr (0, 0, 125)), .inl (0, 12, .inr (0, 0, 126)), .inl (0, 12, .inr (0, 0, 127)), .inl (0, 12, .inr (0, 0, 128)), .inl (0, 66, .inr (0, 0, 129)), .inl (0, 66, .inr (0, 0, 130)), .inl (0, 66, .inr (0, 0, 131)), .inl (0, 7, .inr (0, 0, 132)), .inl (0, 12, .inr (0, 0, 133)), .inr (0, [aR (some 68), aR (some 19), aS 64, aR (some 154), aR (some 155), aR (some 156), aR (some 157), aS 65, aR (some 158), aR (some 159), aR (some 160), aR (some 161), aS 66, aR (some 162)]), .inl (0, 12, .inr (0, 0, 134)), .inl (0, 12, .inr (0, 0, 135)), .inl (0, 12, .inr (0, 0, 136)), .inl (0, 12, .inr (0, 0, 137)), .inl (0, 66, .inr (0, 0, 138)), .inl (0, 66, .inr (0, 0, 139))], [.inl (0, 66, .inr (0, 0, 140)), .inl (0, 7, .inr (0, 0, 141)), .inl (0, 12, .inr (0, 0, 142)), .inr (0, [aR (some 68), aR (some 19), aS 67, aR (some 164), aR (some 165), aR (some 166), aR (some 167), aS 68, aR (some 168), aR (some 169), aR (some 170), aR (some 171), aS 69, aR (some 172)]), .inl (0, 12, .inr (0, 0, 143)), .inl (0, 12, .inr (0, 0, 144)), .inl (0, 12, .inr (0, 0, 145)), .inl (0, 12, .inr (0, 0, 146)), .inl (0, 66, .inr (0, 0, 147)), .inl (0, 66, .inr (0, 0, 148)), .inl (0, 66, .inr (0, 0, 149)), .inl (0, 7, .inr (0, 0, 150)), .inl (0, 12, .inr (0, 0, 151)), .inr (1, [aR (some 174), aR (some 175), aR (some 176), aS 70, aS 71, aR (some 177), aR (some 178), aS 72]), .inl (0, 160, .inr (0, 0, 152)), .inl (0, 40, .inr (0, 0, 153))], [.inl (2, 40, .inr (0, 0, 154)), .inl (0, 4, .inr (0, 0, 155)), .inl (0, 4, .inr (0, 0, 156)), .inr (12, [aS 73, aS 74, aS 75, aS 76, aS 77, aS 78, aS 79, aS 80, aS 81, aR (some 180), aR (some 181), aS 82, aS 83, aS 84, aS 85, aR (some 182), aS 86, aS 87, aS 88, aS 89, aR (some 183), aR (some 184), aS 90, aR (some 185), aR (some 186), aR (some 187), aR (some 188), aS 91, aR (some 189), aR (some 202), aR (some 215), aR (some 228), aR (some 229), aR (some 230), aR (some 243), aR (some 256), aR (some 257), aR (some 258), aR (some 259), aR (some 260), aR (some 261), aS 92, aS 93, aS 94, aS 95, aS 96, aS 97, aS 98, aS 99, aR (some 262), aR (some 263), aR (some 264), aR (some 265), aR (some 266), aR (some 267), aR (some 268), aS 100, aS 101, aR (some 269), aR (some 274), aR (some 450), aR (some 451), aR (some 452), aS 102, aS 103, aS 104, aR (some 453), aR (some 454), aR (some 455), aR (some 456), aR (some 457), aR (some 458), aR (some 459), aR (some 460), aS 105, aS 106, aS 107, aR (some 473), aR (some 514), aR (some 515), aR (some 516), aS 108, aS 109]), .inl (0, 200, .inr (0, 0, 157)), .inl (0, 200, .inr (0, 0, 158)), .inl (0, 8, .inr (0, 0, 159)), .inl (0, 8, .inr (0, 0, 160)), .inl (0, 7, .inr (0, 0, 161)), .inl (0, 12, .inr (0, 0, 162)), .inl (0, 12, .inr (0, 0, 163)), .inl (0, 12, .inr (0, 0, 164)), .inl (0, 24, .inr (0, 0, 165)), .inl (3, 12, .inl [aR (some 190), aR (some 191), aR (some 192), aR (some 193), aR (some 194), aR (some 195), aR (some 196), aR (some 197), aR (some 198), aR (some 199), aR (some 200), aR (some 201)]), .inl (0, 24, .inr (0, 0, 166)), .inl (0, 24, .inr (0, 0, 167))], [.inl (0, 24, .inr (0, 0, 168)), .inl (0, 24, .inr (0, 0, 169)), .inl (0, 24, .inr (0, 0, 170)), .inl (0, 24, .inr (0, 0, 171)), .inl (0, 24, .inr (0, 0, 172)), .inl (0, 24, .inr (0, 0, 173)), .inl (0, 24, .inr (0, 0, 174)), .inl (0, 24, .inr (0, 0, 175)), .inl (0, 24, .inr (0, 0, 176)), .inl (0, 24, .inr (0, 0, 177)), .inl (3, 12, .inl [aR (some 203), aR (some 204), aR (some 205), aR (some 206), aR (some 207), aR (some 208), aR (some 209), aR (some 210), aR (some 211), aR (some 212), aR (some 213), aR (some 214)]), .inl (0, 128, .inr (0, 0, 178)), .inl (0, 128, .inr (0, 0, 179)), .inl (0, 128, .inr (0, 0, 180)), .inl (0, 128, .inr (0, 0, 181)), .inl (0, 128, .inr (0, 0, 182))], [.inl (0, 128, .inr (0, 0, 183)), .inl (0, 128, .inr (0, 0, 184)), .inl (0, 128, .inr (0, 0, 185)), .inl (0, 128, .inr (0, 0, 186)), .inl (0, 128, .inr (0, 0, 187)), .inl (0, 128, .inr (0, 0, 188)), .inl (0, 128, .inr (0, 0, 189)), .inl (3, 12, .inl [aR (some 216), aR (some 217), aR (some 218), aR (some 219), aR (some 220), aR (some 221), aR (some 222), aR (some 223), aR (some 224), aR (some 225), aR (some 226), aR (some 227)]), .inl (0, 24, .inr (0, 0, 190)), .inl (0, 24, .inr (0, 0, 191)), .inl (0, 24, .inr (0, 0, 192)), .inl (0, 24, .inr (0, 0, 193)), .inl (0, 24, .inr (0, 0, 194)), .inl (0, 24, .inr (0, 0, 195)), .inl (0, 24, .inr (0, 0, 196)), .inl (0, 24, .inr (0, 0, 197))], [.inl (0, 24, .inr (0, 0, 198)), .inl (0, 24, .inr (0, 0, 199)), .inl (0, 24, .inr (0, 0, 200)), .inl (0, 24, .inr (0, 0, 201)), .inl (0, 12, .inr (0, 0, 202)), .inl (0, 12, .inr (0, 0, 203)), .inl (3, 12, .inl [aR (some 231), aR (some 232), aR (some 233), aR (some 234), aR (some 235), aR (some 236), aR (some 237), aR (some 238), aR (some 239), aR (some 240), aR (some 241), aR (some 242)]), .inl (0, 24, .inr (0, 0, 204)), .inl (0, 24, .inr (0, 0, 205)), .inl (0, 24, .inr (0, 0, 206)), .inl (0, 24, .inr (0, 0, 207)), .inl (0, 24, .inr (0, 0, 208)), .inl (0, 24, .inr (0, 0, 209)), .inl (0, 24, .inr (0, 0, 210)), .inl (0, 24, .inr (0, 0, 211)), .inl (0, 24, .inr (0, 0, 212))], [.inl (0, 24, .inr (0, 0, 213)), .inl (0, 24, .inr (0, 0, 214)), .inl (0, 24, .inr (0, 0, 215)), .inl (3, 12, .inl [aR (some 244), aR (some 245), aR (some 246), aR (some 247), aR (some 248), aR (some 249), aR (some 250), aR (some 251), aR (some 252), aR (some 253), aR (some 254), aR (some 255)]), .inl (0, 128, .inr (0, 0, 216)), .inl (0, 128, .inr (0, 0, 217)), .inl (0, 128, .inr (0, 0, 218)), .inl (0, 128, .inr (0, 0, 219)), .inl (0, 128, .inr (0, 0, 220)), .inl (0, 128, .inr (0, 0, 221)), .inl (0, 128, .inr (0, 0, 222)), .inl (0, 128, .inr (0, 0, 223)), .inl (0, 128, .inr (0, 0, 224)), .inl (0, 128, .inr (0, 0, 225)), .inl (0, 128, .inr (0, 0, 226)), .inl (0, 128, .inr (0, 0, 227))]], [[.inl (0, 128, .inr (0, 0, 228)), .inl (0, 8, .inr (0, 0, 229)), .inl (2, 128, .inr (0, 0, 230)), .inl (2, 128, .inr (0, 0, 231)), .inl (0, 128, .inr (0, 0, 232)), .inl (0, 8, .inr (0, 0, 233)), .inl (0, 8, .inr (0, 0, 234)), .inl (0, 8, .inr (0, 0, 235)), .inl (0, 8, .inr (0, 0, 236)), .inl (0, 6, .inr (0, 0, 237)), .inl (0, 256, .inr (0, 0, 238)), .inl (0, 256, .inr (0, 0, 239)), .inl (2, 256, .inr (0, 0, 240)), .inl (3, 4, .inl [aR (some 270), aR (some 271), aR (some 272), aR (some 273)]), .inl (0, 128, .inr (0, 0, 241)), .inl (0, 128, .inr (0, 0, 242))], [.inl (0, 128, .inr (0, 0, 243)), .inl (0, 128, .inr (0, 0, 244)), .inl (4, 25, .inl [aR (some 275), aR (some 282), aR (some 289), aR (some 296), aR (some 303), aR (some 310), aR (some 317), aR (some 324), aR (some 331), aR (some 338), aR (some 345), aR (some 352), aR (some 359), aR (some 366), aR (some 373), aR (some 380), aR (some 387), aR (some 394), aR (some 401), aR (some 408), aR (some 415), aR (some 422), aR (some 429), aR (some 436), aR (some 443)]), .inl (3, 6, .inl [aR (some 276), aR (some 277), aR (some 278), aR (some 279), aR (some 280), aR (some 281)]), .inl (0, 24, .inr (0, 0, 245)), .inl (0, 24, .inr (0, 0, 246)), .inl (0, 24, .inr (0, 0, 247)), .inl (0, 24, .inr (0, 0, 248)), .inl (0, 24, .inr (0, 0, 249)), .inl (0, 24, .inr (0, 0, 250)), .inl (3, 6, .inl [aR (some 283), aR (some 284), aR (some 285), aR (some 286), aR (some 287), aR (some 288)]), .inl (0, 24, .inr (0, 0, 251)), .inl (0, 24, .inr (0, 0, 252)), .inl (0, 24, .inr (0, 0, 253)), .inl (0, 24, .inr (0, 0, 254)), .inl (0, 24, .inr (0, 0, 255))], [.inl (0, 24, .inr (0, 0, 256)), .inl (3, 6, .inl [aR (some 290), aR (some 291), aR (some 292), aR (some 293), aR (some 294), aR (some 295)]), .inl (0, 24, .inr (0, 0, 257)), .inl (0, 24, .inr (0, 0, 258)), .inl (0, 24, .inr (0, 0, 259)), .inl (0, 24, .inr (0, 0, 260)), .inl (0, 24, .inr (0, 0, 261)), .inl (0, 24, .inr (0, 0, 262)), .inl (3, 6, .inl [aR (some 297), aR (some 298), aR (some 299), aR (some 300), aR (some 301), aR (some 302)]), .inl (0, 24, .inr (0, 0, 263)), .inl (0, 24, .inr (0, 0, 264)), .inl (0, 24, .inr (0, 0, 265)), .inl (0, 24, .inr (0, 0, 266)), .inl (0, 24, .inr (0, 0, 267)), .inl (0, 24, .inr (0, 0, 268)), .inl (3, 6, .inl [aR (some 304), aR (some 305), aR (some 306), aR (some 307), aR (some 308), aR (some 309)])], [.inl (0, 24, .inr (0, 0, 269)), .inl (0, 24, .inr (0, 0, 270)), .inl (0, 24, .inr (0, 0, 271)), .inl (0, 24, .inr (0, 0, 272)), .inl (0, 24, .inr (0, 0, 273)), .inl (0, 24, .inr (0, 0, 274)), .inl (3, 6, .inl [aR (some 311), aR (some 312), aR (some 313), aR (some 314), aR (some 315), aR (some 316)]), .inl (0, 24, .inr (0, 0, 275)), .inl (0, 24, .inr (0, 0, 276)), .inl (0, 24, .inr (0, 0, 277)), .inl (0, 24, .inr (0, 0, 278)), .inl (0, 24, .inr (0, 0, 279)), .inl (0, 24, .inr (0, 0, 280)), .inl (3, 6, .inl [aR (some 318), aR (some 319), aR (some 320), aR (some 321), aR (some 322), aR (some 323)]), .inl (0, 24, .inr (0, 0, 281)), .inl (0, 24, .inr (0, 0, 282))], [.inl (0, 24, .inr (0, 0, 283)), .inl (0, 24, .inr (0, 0, 284)), .inl (0, 24, .inr (0, 0, 285)), .inl (0, 24, .inr (0, 0, 286)), .inl (3, 6, .inl [aR (some 325), aR (some 326), aR (some 327), aR (some 328), aR (some 329), aR (some 330)]), .inl (0, 24, .inr (0, 0, 287)), .inl (0, 24, .inr (0, 0, 288)), .inl (0, 24, .inr (0, 0, 289)), .inl (0, 24, .inr (0, 0, 290)), .inl (0, 24, .inr (0, 0, 291)), .inl (0, 24, .inr (0, 0, 292)), .inl (3, 6, .inl [aR (some 332), aR (some 333), aR (some 334), aR (some 335), aR (some 336), aR (some 337)]), .inl (0, 24, .inr (0, 0, 293)), .inl (0, 24, .inr (0, 0, 294)), .inl (0, 24, .inr (0, 0, 295)), .inl (0, 24, .inr (0, 0, 296))], [.inl (0, 24, .inr (0, 0, 297)), .inl (0, 24, .inr (0, 0, 298)), .inl (3, 6, .inl [aR (some 339), aR (some 340), aR (some 341), aR (some 342), aR (some 343), aR (some 344)]), .inl (0, 24, .inr (0, 0, 299)), .inl (0, 24, .inr (0, 0, 300)), .inl (0, 24, .inr (0, 0, 301)), .inl (0, 24, .inr (0, 0, 302)), .inl (0, 24, .inr (0, 0, 303)), .inl (0, 24, .inr (0, 0, 304)), .inl (3, 6, .inl [aR (some 346), aR (some 347), aR (some 348), aR (some 349), aR (some 350), aR (some 351)]), .inl (0, 24, .inr (0, 0, 305)), .inl (0, 24, .inr (0, 0, 306)), .inl (0, 24, .inr (0, 0, 307)), .inl (0, 24, .inr (0, 0, 308)), .inl (0, 24, .inr (0, 0, 309)), .inl (0, 24, .inr (0, 0, 310))], [.inl (3, 6, .inl [aR (some 353), aR (some 354), aR (some 355), aR (some 356), aR (some 357), aR (some 358)]), .inl (0, 24, .inr (0, 0, 311)), .inl (0, 24, .inr (0, 0, 312)), .inl (0, 24, .inr (0, 0, 313)), .inl (0, 24, .inr (0, 0, 314)), .inl (0, 24, .inr (0, 0, 315)), .inl (0, 24, .inr (0, 0, 316)), .inl (3, 6, .inl [aR (some 360), aR (some 361), aR (some 362), aR (some 363), aR (some 364), aR (some 365)]), .inl (0, 24, .inr (0, 0, 317)), .inl (0, 24, .inr (0, 0, 318)), .inl (0, 24, .inr (0, 0, 319)), .inl (0, 24, .inr (0, 0, 320)), .inl (0, 24, .inr (0, 0, 321)), .inl (0, 24, .inr (0, 0, 322)), .inl (3, 6, .inl [aR (some 367), aR (some 368), aR (some 369), aR (some 370), aR (some 371), aR (some 372)]), .inl (0, 24, .inr (0, 0, 323))], [.inl (0, 24, .inr (0, 0, 324)), .inl (0, 24, .inr (0, 0, 325)), .inl (0, 24, .inr (0, 0, 326)), .inl (0, 24, .inr (0, 0, 327)), .inl (0, 24, .inr (0, 0, 328)), .inl (3, 6, .inl [aR (some 374), aR (some 375), aR (some 376), aR (some 377), aR (some 378), aR (some 379)]), .inl (0, 24, .inr (0, 0, 329)), .inl (0, 24, .inr (0, 0, 330)), .inl (0, 24, .inr (0, 0, 331)), .inl (0, 24, .inr (0, 0, 332)), .inl (0, 24, .inr (0, 0, 333)), .inl (0, 24, .inr (0, 0, 334)), .inl (3, 6, .inl [aR (some 381), aR (some 382), aR (some 383), aR (some 384), aR (some 385), aR (some 386)]), .inl (0, 24, .inr (0, 0, 335)), .inl (0, 24, .inr (0, 0, 336)), .inl (0, 24, .inr (0, 0, 337))], [.inl (0, 24, .inr (0, 0, 338)), .inl (0, 24, .inr (0, 0, 339)), .inl (0, 24, .inr (0, 0, 340)), .inl (3, 6, .inl [aR (some 388), aR (some 389), aR (some 390), aR (some 391), aR (some 392), aR (some 393)]), .inl (0, 24, .inr (0, 0, 341)), .inl (0, 24, .inr (0, 0, 342)), .inl (0, 24, .inr (0, 0, 343)), .inl (0, 24, .inr (0, 0, 344)), .inl (0, 24, .inr (0, 0, 345)), .inl (0, 24, .inr (0, 0, 346)), .inl (3, 6, .inl [aR (some 395), aR (some 396), aR (some 397), aR (some 398), aR (some 399), aR (some 400)]), .inl (0, 24, .inr (0, 0, 347)), .inl (0, 24, .inr (0, 0, 348)), .inl (0, 24, .inr (0, 0, 349)), .inl (0, 24, .inr (0, 0, 350)), .inl (0, 24, .inr (0, 0, 351))], [.inl (0, 24, .inr (0, 0, 352)), .inl (3, 6, .inl [aR (some 402), aR (some 403), aR (some 404), aR (some 405), aR (some 406), aR (some 407)]), .inl (0, 24, .inr (0, 0, 353)), .inl (0, 24, .inr (0, 0, 354)), .inl (0, 24, .inr (0, 0, 355)), .inl (0, 24, .inr (0, 0, 356)), .inl (0, 24, .inr (0, 0, 357)), .inl (0, 24, .inr (0, 0, 358)), .inl (3, 6, .inl [aR (some 409), aR (some 410), aR (some 411), aR (some 412), aR (some 413), aR (some 414)]), .inl (0, 24, .inr (0, 0, 359)), .inl (0, 24, .inr (0, 0, 360)), .inl (0, 24, .inr (0, 0, 361)), .inl (0, 24, .inr (0, 0, 362)), .inl (0, 24, .inr (0, 0, 363)), .inl (0, 24, .inr (0, 0, 364)), .inl (3, 6, .inl [aR (some 416), aR (some 417), aR (some 418), aR (some 419), aR (some 420), aR (some 421)])], [.inl (0, 24, .inr (0, 0, 365)), .inl (0, 24, .inr (0, 0, 366)), .inl (0, 24, .inr (0, 0, 367)), .inl (0, 24, .inr (0, 0, 368)), .inl (0, 24, .inr (0, 0, 369)), .inl (0, 24, .inr (0, 0, 370)), .inl (3, 6, .inl [aR (some 423), aR (some 424), aR (some 425), aR (some 426), aR (some 427), aR (some 428)]), .inl (0, 24, .inr (0, 0, 371)), .inl (0, 24, .inr (0, 0, 372)), .inl (0, 24, .inr (0, 0, 373)), .inl (0, 24, .inr (0, 0, 374)), .inl (0, 24, .inr (0, 0, 375)), .inl (0, 24, .inr (0, 0, 376)), .inl (3, 6, .inl [aR (some 430), aR (some 431), aR (some 432), aR (some 433), aR (some 434), aR (some 435)]), .inl (0, 24, .inr (0, 0, 377)), .inl (0, 24, .inr (0, 0, 378))], [.inl (0, 24, .inr (0, 0, 379)), .inl (0, 24, .inr (0, 0, 380)), .inl (0, 24, .inr (0, 0, 381)), .inl (0, 24, .inr (0, 0, 382)), .inl (3, 6, .inl [aR (some 437), aR (some 438), aR (some 439), aR (some 440), aR (some 441), aR (some 442)]), .inl (0, 24, .inr (0, 0, 383)), .inl (0, 24, .inr (0, 0, 384)), .inl (0, 24, .inr (0, 0, 385)), .inl (0, 24, .inr (0, 0, 386)), .inl (0, 24, .inr (0, 0, 387)), .inl (0, 24, .inr (0, 0, 388)), .inl (3, 6, .inl [aR (some 444), aR (some 445), aR (some 446), aR (some 447), aR (some 448), aR (some 449)]), .inl (0, 24, .inr (0, 0, 389)), .inl (0, 24, .inr (0, 0, 390)), .inl (0, 24, .inr (0, 0, 391)), .inl (0, 24, .inr (0, 0, 392))], [.inl (0, 24, .inr (0, 0, 393)), .inl (0, 24, .inr (0, 0, 394)), .inl (0, 24, .inr (0, 0, 395)), .inl (0, 24, .inr (0, 0, 396)), .inl (0, 24, .inr (0, 0, 397)), .inl (0, 8, .inr (0, 0, 398)), .inl (2, 128, .inr (0, 0, 399)), .inl (0, 8, .inr (0, 0, 400)), .inl (0, 12, .inr (0, 0, 401)), .inl (0, 12, .inr (0, 0, 402)), .inl (0, 12, .inr (0, 0, 403)), .inl (0, 128, .inr (0, 0, 404)), .inl (3, 12, .inl [aR (some 461), aR (some 462), aR (some 463), aR (some 464), aR (some 465), aR (some 466), aR (some 467), aR (some 468), aR (some 469), aR (some 470), aR (some 471), aR (some 472)]), .inl (0, 24, .inr (0, 0, 405)), .inl (0, 24, .inr (0, 0, 406)), .inl (0, 24, .inr (0, 0, 407))], [.inl (0, 24, .inr (0, 0, 408)), .inl (0, 24, .inr (0, 0, 409)), .inl (0, 24, .inr (0, 0, 410)), .inl (0, 24, .inr (0, 0, 411)), .inl (0, 24, .inr (0, 0, 412)), .inl (0, 24, .inr (0, 0, 413)), .inl (0, 24, .inr (0, 0, 414)), .inl (0, 24, .inr (0, 0, 415)), .inl (0, 24, .inr (0, 0, 416)), .inl (3, 40, .inl [aR (some 474), aR (some 475), aR (some 476), aR (some 477), aR (some 478), aR (some 479), aR (some 480), aR (some 481), aR (some 482), aR (some 483), aR (some 484), aR (some 485), aR (some 486), aR (some 487), aR (some 488), aR (some 489), aR (some 490), aR (some 491), aR (some 492), aR (some 493), aR (some 494), aR (some 495), aR (some 496), aR (some 497), aR (some 498), aR (some 499), aR (some 500), aR (some 501), aR (some 502), aR (some 503), aR (some 504), aR (some 505), aR (some 506), aR (some 507), aR (some 508), aR (some 509), aR (some 510), aR (some 511), aR (some 512), aR (some 513)]), .inl (0, 4, .inr (0, 0, 417)), .inl (0, 4, .inr (0, 0, 418)), .inl (0, 4, .inr (0, 0, 419)), .inl (0, 4, .inr (0, 0, 420)), .inl (0, 4, .inr (0, 0, 421)), .inl (0, 4, .inr (0, 0, 422))], [.inl (0, 4, .inr (0, 0, 423)), .inl (0, 4, .inr (0, 0, 424)), .inl (0, 4, .inr (0, 0, 425)), .inl (0, 4, .inr (0, 0, 426)), .inl (0, 4, .inr (0, 0, 427)), .inl (0, 4, .inr (0, 0, 428)), .inl (0, 4, .inr (0, 0, 429)), .inl (0, 4, .inr (0, 0, 430)), .inl (0, 4, .inr (0, 0, 431)), .inl (0, 4, .inr (0, 0, 432)), .inl (0, 4, .inr (0, 0, 433)), .inl (0, 4, .inr (0, 0, 434)), .inl (0, 4, .inr (0, 0, 435)), .inl (0, 4, .inr (0, 0, 436)), .inl (0, 4, .inr (0, 0, 437)), .inl (0, 4, .inr (0, 0, 438))], [.inl (0, 4, .inr (0, 0, 439)), .inl (0, 4, .inr (0, 0, 440)), .inl (0, 4, .inr (0, 0, 441)), .inl (0, 4, .inr (0, 0, 442)), .inl (0, 4, .inr (0, 0, 443)), .inl (0, 4, .inr (0, 0, 444)), .inl (0, 4, .inr (0, 0, 445)), .inl (0, 4, .inr (0, 0, 446)), .inl (0, 4, .inr (0, 0, 447)), .inl (0, 4, .inr (0, 0, 448)), .inl (0, 4, .inr (0, 0, 449)), .inl (0, 4, .inr (0, 0, 450)), .inl (0, 4, .inr (0, 0, 451)), .inl (0, 4, .inr (0, 0, 452)), .inl (0, 4, .inr (0, 0, 453)), .inl (0, 4, .inr (0, 0, 454))]], [[.inl (0, 4, .inr (0, 0, 455)), .inl (0, 4, .inr (0, 0, 456)), .inl (0, 40, .inr (0, 0, 457)), .inl (0, 4, .inr (0, 0, 458)), .inl (2, 40, .inr (0, 0, 459)), .inl (1, 1, .inr (0, 0, 460))]]]
def bsS (i : Nat) : AC := (t3 bsSl i).getD (.inr (99, []))
/-- whose a symbol is -/
def oIl : List (Nat × Nat) := [(1, 1), (1, 2), (1, 3), (1, 4), (1, 5), (1, 6), (1, 7), (1, 8), (1, 9), (3, 0), (3, 8), (3, 17), (19, 3), (19, 4), (19, 5), (19, 6), (19, 9), (19, 10), (19, 11), (19, 12), (25, 5), (25, 6), (31, 2), (31, 7), (31, 12), (41, 7), (41, 8), (41, 9), (46, 3), (46, 10), (46, 11), (46, 12), (54, 5), (54, 6), (54, 12), (54, 13), (61, 1), (61, 2), (61, 8), (67, 6), (67, 7), (67, 9), (67, 13), (68, 0), (68, 8), (68, 17), (93, 2), (93, 7), (93, 12), (103, 2), (103, 7), (103, 12), (113, 2), (113, 7), (113, 12), (123, 2), (123, 7), (123, 12), (133, 2), (133, 7), (133, 12), (143, 2), (143, 7), (143, 12), (153, 2), (153, 7), (153, 12), (163, 2), (163, 7), (163, 12), (173, 3), (173, 4), (173, 7), (179, 0), (179, 1), (179, 2), (179, 3), (179, 4), (179, 5), (179, 6), (179, 7), (179, 8), (179, 11), (179, 12), (179, 13), (179, 14), (179, 16), (179, 17), (179, 18), (179, 19), (179, 22), (179, 27), (179, 41), (179, 42), (179, 43), (179, 44), (179, 45), (179, 46), (179, 47), (179, 48), (179, 56), (179, 57), (179, 63), (179, 64), (179, 65), (179, 74), (179, 75), (179, 76), (179, 81), (179, 82)]
def oJl : List (Nat × Nat) := [(67, 4), (67, 5)]
def oAl : List Nat := [2, 4, 5, 6, 7, 8, 9, 10, 11, 12, 13, 14, 15, 16, 17, 18, 20, 21, 22, 23, 24, 26, 27, 28, 29, 30, 32, 33, 34, 35, 36, 37, 38, 39, 40, 42, 43, 44, 45, 47, 48, 49, 50, 51, 52, 53, 55, 56, 57, 58, 59, 60, 62, 63, 64, 65, 66, 69, 70, 71, 72, 73, 74, 75, 76, 77, 78, 79, 80, 81, 82, 83, 85, 86, 87, 88, 89, 90, 91, 92, 94, 95, 96, 97, 98, 99, 100, 101, 102, 104, 105, 106, 107, 108, 109, 110, 111, 112, 114, 115, 116, 117, 118, 119, 120, 121, 122, 124, 125, 126, 127, 128, 129, 130, 131, 132, 134, 135, 136, 137, 138, 139, 140, 141, 142, 144, 145, 146, 147, 148, 149, 150, 151, 152, 154, 155, 156, 157, 158, 159, 160, 161, 162, 164, 165, 166, 167, 168, 169, 170, 171, 172, 174, 175, 176, 177, 178, 180, 181, 182, 183, 184, 185, 186, 187, 188, 190, 191, 192, 193, 194, 195, 196, 197, 198, 199, 200, 201, 203, 204, 205, 206, 207, 208, 209, 210, 211, 212, 213, 214, 216, 217, 218, 219, 220, 221, 222, 223, 224, 225, 226, 227, 228, 229, 231, 232, 233, 234, 235, 236, 237, 238, 239, 240, 241, 242, 244, 245, 246, 247, 248, 249, 250, 251, 252, 253, 254, 255, 256, 257, 258, 259, 260, 261, 262, 263, 264, 265, 266, 267, 268, 270, 271, 272, 273, 276, 277, 278, 279, 280, 281, 283, 284, 285, 286, 287, 288, 290, 291, 292, 293, 294, 295, 297, 298, 299, 300, 301, 302, 304, 305, 306, 307, 308, 309, 311, 312, 313, 314, 315, 316, 318, 319, 320, 321, 322, 323, 325, 326, 327, 328, 329, 330, 332, 333, 334, 335, 336, 337, 339, 340, 341, 342, 343, 344, 346, 347, 348, 349, 350, 351, 353, 354, 355, 356, 357, 358, 360, 361, 362, 363, 364, 365, 367, 368, 369, 370, 371, 372, 374, 375, 376, 377, 378, 379, 381, 382, 383, 384, 385, 386, 388, 389, 390, 391, 392, 393, 395, 396, 397, 398, 399, 400, 402, 403, 404, 405, 406, 407, 409, 410, 411, 412, 413, 414, 416, 417, 418, 419, 420, 421, 423, 424, 425, 426, 427, 428, 430, 431, 432, 433, 434, 435, 437, 438, 439, 440, 441, 442, 444, 445, 446, 447, 448, 449, 450, 451, 452, 453, 454, 455, 456, 457, 458, 459, 461, 462, 463, 464, 465, 466, 467, 468, 469, 470, 471, 472, 474, 475, 476, 477, 478, 479, 480, 481, 482, 483, 484, 485, 486, 487, 488, 489, 490, 491, 492, 493, 494, 495, 496, 497, 498, 499, 500, 501, 502, 503, 504, 505, 506, 507, 508, 509, 510, 511, 512, 513, 514, 515, 516, 517]
def owI (k : Nat) : Nat × Nat := oIl.getD k (999, 0)
def owJ (k : Nat) : Nat × Nat := oJl.getD k (999, 0)
def owA (k : Nat) : Nat := oAl.getD k 999
def okV (j i : Nat) (x : AV) : Bool := match x with
  | .inr (.inl k) => Nat.beq (owI k).1 j && Nat.beq (owI k).2 i
  | .inr (.inr (.inr (.inl k))) => Nat.beq (owJ k).1 j && Nat.beq (owJ k).2 i
  | .inr (.inr (.inr (.inr (.inl _)))) => true
  | _ => false
def okCell (j : Nat) : Bool := match bsS j with
  | .inl (_, _, .inr (_, _, a)) => Nat.beq (owA a) j
  | .inl (_, _, .inl l) => l.all aIsR
  | .inr (_, fs) => fs.zipIdx.all (fun q => okV j q.2 q.1)
theorem okCells : (List.range 518).all okCell = true := by decide +kernel
theorem okCell_at {j : Nat} (h : j < 518) : okCell j = true := List.all_eq_true.mp okCells j (List.mem_range.mpr h)
/-- a picture: ints, longs, arrays of ints, of longs; cells behind the fixed ones -/
abbrev PS : Type := (Nat → Int32) × (Nat → Int64) × (Nat → Nat → Int32) × (Nat → Nat → Int64) × va_W
abbrev gI (s : PS) (k : Nat) : Int32 := s.1 k
abbrev gJ (s : PS) (k : Nat) : Int64 := s.2.1 k
abbrev gC (s : PS) (a j : Nat) : Int32 := s.2.2.1 a j
abbrev gD (s : PS) (a j : Nat) : Int64 := s.2.2.2.1 a j
abbrev pX (s : PS) : va_W := s.2.2.2.2
def uI (s : PS) (k : Nat) (x : Int32) : PS := (fun j => if j = k then x else s.1 j, s.2)
def uJ (s : PS) (k : Nat) (x : Int64) : PS := (s.1, fun j => if j = k then x else s.2.1 j, s.2.2)
def uC (s : PS) (a i : Nat) (x : Int32) : PS := (s.1, s.2.1, fun b => if b = a then upd (s.2.2.1 a) i x else s.2.2.1 b, s.2.2.2)
def uD (s : PS) (a i : Nat) (x : Int64) : PS := (s.1, s.2.1, s.2.2.1, (fun b => if b = a then vp_updL (s.2.2.2.1 a) i x else s.2.2.2.1 b), s.2.2.2.2)
def vS (A : Nat → Nat) (s : PS) : VL := (s.1, s.2.1, A, fun _ => 0, s.2.2.1, s.2.2.2.1)
def Wd (A : Nat → Nat) (dT : Nat → ClassId) (s : PS) : va_W := cW (vS A s) dT bsS (518, []) ++ pX s
theorem cW_518 (v : VL) (dT : Nat → ClassId) : (cW v dT bsS (518, [])).length = 518 := by unfold cW; simp
section WP
variable {A : Nat → Nat} {dT : Nat → ClassId} {s : PS}
theorem Wd_get {i : Nat} (h : i < 518) : (Wd A dT s)[i]? = some (A i, cC (vS A s) dT (bsS i)) := by
  unfold Wd
  rw [List.getElem?_append_left (by rw [cW_518]; exact h)]
  exact cW_get (h := (518, [])) h
theorem Wd_len : (Wd A dT s).length = 518 + (pX s).length := by unfold Wd; rw [List.length_append, cW_518]
theorem Wd_ext {j : Nat} (h : 518 ≤ j) : (Wd A dT s)[j]? = (pX s)[j - 518]? := by
  unfold Wd
  rw [List.getElem?_append_right (by rw [cW_518]; exact h), cW_518]
/-- two worlds that part in one cell alone -/
theorem Wd_set {t : PS} {c : Nat} {e : va_E} (hx : pX t = pX s) (hc : c < 518) (h1 : e = cC (vS A t) dT (bsS c)) (h2 : ∀ j, j < 518 → j ≠ c → cC (vS A t) dT (bsS j) = cC (vS A s) dT (bsS j)) : (Wd A dT s).set c (A c, e) = Wd A dT t := by
  apply List.ext_getElem?
  intro j
  rw [List.getElem?_set]
  by_cases e' : c = j
  · subst e'
    rw [if_pos rfl, if_pos (by rw [Wd_len]; omega), Wd_get hc, h1]
  · rw [if_neg e']
    by_cases hj : j < 518
    · rw [Wd_get hj, Wd_get hj, h2 j hj (Ne.symm e')]
    · rw [Wd_ext (by omega), Wd_ext (by omega), hx]
theorem okF {j ci : Nat} {fs : List AV} (hj : j < 518) (hb : bsS j = .inr (ci, fs)) {i : Nat} {x : AV} (hx : fs[i]? = some x) : okV j i x = true := by
  have h := okCell_at hj
  unfold okCell at h
  rw [hb] at h
  exact List.all_eq_true.mp h (x, i) (List.mk_mem_zipIdx_iff_getElem?.mpr hx)
/-- cells that do not hold the int symbol k -/
theorem cC_uI {c i k j : Nat} {x : Int32} (hk : owI k = (c, i)) (hj : j < 518) (hne : j ≠ c) : cC (vS A (uI s k x)) dT (bsS j) = cC (vS A s) dT (bsS j) := by
  cases hb : bsS j with
  | inl q =>
    obtain ⟨t, n, b⟩ := q
    have h := okCell_at hj
    unfold okCell at h
    rw [hb] at h
    show Sum.inl (dT t, n, cB _ t n b) = Sum.inl (dT t, n, cB _ t n b)
    congr 3
    rcases b with l | ⟨lo, hi, a'⟩
    · refine cB_ext (fun _ m _ => ?_) (fun _ m _ => ?_) (fun _ m _ => rfl)
      · show cZ _ (l.getD m (aI 0)) = cZ _ (l.getD m (aI 0))
        rcases getD_mem (l := l) (j := m) (d := aI 0) with q | q
        · rw [q]; rfl
        · have hr := List.all_eq_true.mp h _ q
          generalize l.getD m (aI 0) = y at hr ⊢
          rcases y with z | k' | n' | k' | r | k'
          · cases hr
          · cases hr
          all_goals rfl
      · show cQ _ (l.getD m (aJ 0)) = cQ _ (l.getD m (aJ 0))
        rcases getD_mem (l := l) (j := m) (d := aJ 0) with q | q
        · rw [q]; rfl
        · have hr := List.all_eq_true.mp h _ q
          generalize l.getD m (aJ 0) = y at hr ⊢
          rcases y with z | k' | n' | k' | r | k'
          · cases hr
          · cases hr
          all_goals rfl
    · exact cB_ext (fun _ m _ => rfl) (fun _ m _ => rfl) (fun _ m _ => rfl)
  | inr q =>
    obtain ⟨ci, fs⟩ := q
    show Sum.inr (ci, fs.map _) = Sum.inr (ci, fs.map _)
    congr 2
    apply List.map_congr_left
    intro y hy
    obtain ⟨m, hm⟩ := List.mem_iff_getElem?.mp hy
    have h := okF hj hb hm
    rcases y with z | k' | n | k' | r | k'
    · cases h
    · show Value.int (if k' = k then x else s.1 k') = _
      rw [if_neg (fun e => ?_)]; rfl
      subst e
      have h : (Nat.beq (owI k').1 j && Nat.beq (owI k').2 m) = true := h
      rw [hk, Bool.and_eq_true] at h
      exact hne (Nat.eq_of_beq_eq_true h.1).symm
    · cases h
    · rfl
    · rfl
    · cases h
theorem put_I {c ci i k : Nat} {fs : List AV} {x : Int32} (hc : c < 518) (hb : bsS c = .inr (ci, fs)) (hf : fs[i]? = some (aS k)) : (Wd A dT s).set c (A c, .inr (ci, (fs.map (cv (vS A s))).set i (.int x))) = Wd A dT (uI s k x) := by
  have h0 := okF hc hb hf
  replace h0 : (Nat.beq (owI k).1 c && Nat.beq (owI k).2 i) = true := h0
  rw [Bool.and_eq_true] at h0
  have hk : owI k = (c, i) := Prod.ext (Nat.eq_of_beq_eq_true h0.1) (Nat.eq_of_beq_eq_true h0.2)
  refine Wd_set rfl hc ?_ (fun j hj hne => cC_uI hk hj hne)
  rw [hb]
  show Sum.inr (ci, _) = Sum.inr (ci, fs.map (cv (vS A (uI s k x))))
  congr 2
  apply List.ext_getElem?
  intro m
  rw [List.getElem?_set]
  by_cases e : i = m
  · subst e
    rw [if_pos rfl, if_pos (by rw [List.length_map]; exact (List.getElem?_eq_some_iff.mp hf).1), List.getElem?_map, hf]
    show some (Value.int x) = some (Value.int (if k = k then x else _))
    rw [if_pos rfl]
  · rw [if_neg e, List.getElem?_map, List.getElem?_map]
    cases hm : fs[m]? with
    | none => rfl
    | some y =>
      have h := okF hc hb hm
      show some (cv (vS A s) y) = some (cv (vS A (uI s k x)) y)
      congr 1
      rcases y with z | k' | n | k' | r | k'
      · cases h
      · show _ = Value.int (if k' = k then x else s.1 k')
        rw [if_neg (fun e' => ?_)]; rfl
        subst e'
        replace h : (Nat.beq (owI k').1 c && Nat.beq (owI k').2 m) = true := h
        rw [hk, Bool.and_eq_true] at h
        exact e (Nat.eq_of_beq_eq_true h.2)
      · cases h
      · rfl
      · rfl
      · cases h
/-- cells whose array is not a -/
theorem cC_uC {c a i j : Nat} {x : Int32} (hk : owA a = c) (hj : j < 518) (hne : j ≠ c) : cC (vS A (uC s a i x)) dT (bsS j) = cC (vS A s) dT (bsS j) := by
  have h := okCell_at hj
  unfold okCell at h
  cases hb : bsS j with
  | inr q => obtain ⟨ci, fs⟩ := q; rfl
  | inl q =>
    obtain ⟨t, n, b⟩ := q
    rw [hb] at h
    rcases b with l | ⟨lo, hi, a'⟩
    · show Sum.inl (dT t, n, cB _ t n (.inl l)) = Sum.inl (dT t, n, cB _ t n (.inl l))
      rfl
    · have e := Nat.eq_of_beq_eq_true h
      have ne : a' ≠ a := fun q => hne (by rw [← hk, ← q]; exact e.symm)
      show Sum.inl (dT t, n, cB _ t n (.inr (lo, hi, a'))) = Sum.inl (dT t, n, cB _ t n (.inr (lo, hi, a')))
      congr 3
      refine cB_ext (fun _ m _ => ?_) (fun _ m _ => rfl) (fun _ m _ => rfl)
      show (if a' = a then upd (s.2.2.1 a) i x else s.2.2.1 a') m = s.2.2.1 a' m
      rw [if_neg ne]
theorem get_C {c n a : Nat} {t : Nat} (ht : t = 0 ∨ t = 2) (hc : c < 518) (hb : bsS c = .inl (t, n, .inr (0, 0, a))) : (Wd A dT s)[c]? = some (A c, .inl (dT t, n, .inl (fun j => if j < n then gC s a j else 0))) := by
  rw [Wd_get hc, hb]
  rcases ht with e | e <;> subst e <;> rfl
theorem put_C {c n a i t : Nat} {x : Int32} (ht : t = 0 ∨ t = 2) (hc : c < 518) (hb : bsS c = .inl (t, n, .inr (0, 0, a))) (hi : i < n) : (Wd A dT s).set c (A c, .inl (dT t, n, .inl (upd (fun j => if j < n then gC s a j else 0) i x))) = Wd A dT (uC s a i x) := by
  have h := okCell_at hc
  unfold okCell at h
  rw [hb] at h
  have e := Nat.eq_of_beq_eq_true h
  refine Wd_set rfl hc ?_ (fun j hj hne => cC_uC e hj hne)
  rw [hb]
  have : (upd (fun j => if j < n then gC s a j else 0) i x) = fun j => if j < n then (if a = a then upd (s.2.2.1 a) i x else s.2.2.1 a) j else 0 := by
    funext j
    rw [if_pos rfl]
    unfold upd
    by_cases q : j = i
    · subst q; rw [if_pos rfl, if_pos hi, if_pos rfl]
    · rw [if_neg q, if_neg q]
  rcases ht with e | e <;> subst e
  · show Sum.inl (dT 0, n, Sum.inl _) = Sum.inl (dT 0, n, Sum.inl _)
    rw [this]; rfl
  · show Sum.inl (dT 2, n, Sum.inl _) = Sum.inl (dT 2, n, Sum.inl _)
    rw [this]; rfl
/-- the same of longs -/
theorem cC_uJ {c i k j : Nat} {x : Int64} (hk : owJ k = (c, i)) (hj : j < 518) (hne : j ≠ c) : cC (vS A (uJ s k x)) dT (bsS j) = cC (vS A s) dT (bsS j) := by
  cases hb : bsS j with
  | inl q =>
    obtain ⟨t, n, b⟩ := q
    have h := okCell_at hj
    unfold okCell at h
    rw [hb] at h
    show Sum.inl (dT t, n, cB _ t n b) = Sum.inl (dT t, n, cB _ t n b)
    congr 3
    rcases b with l | ⟨lo, hi, a'⟩
    · refine cB_ext (fun _ m _ => ?_) (fun _ m _ => ?_) (fun _ m _ => rfl)
      · show cZ _ (l.getD m (aI 0)) = cZ _ (l.getD m (aI 0))
        generalize l.getD m (aI 0) = y
        rcases y with z | k' | n' | k' | r | k' <;> rfl
      · show cQ _ (l.getD m (aJ 0)) = cQ _ (l.getD m (aJ 0))
        rcases getD_mem (l := l) (j := m) (d := aJ 0) with q | q
        · rw [q]; rfl
        · have hr := List.all_eq_true.mp h _ q
          generalize l.getD m (aJ 0) = y at hr ⊢
          rcases y with z | k' | n' | k' | r | k' <;> first | rfl | cases hr
    · exact cB_ext (fun _ m _ => rfl) (fun _ m _ => rfl) (fun _ m _ => rfl)
  | inr q =>
    obtain ⟨ci, fs⟩ := q
    show Sum.inr (ci, fs.map _) = Sum.inr (ci, fs.map _)
    congr 2
    apply List.map_congr_left
    intro y hy
    obtain ⟨m, hm⟩ := List.mem_iff_getElem?.mp hy
    have h := okF hj hb hm
    rcases y with z | k' | n | k' | r | k'
    · cases h
    · rfl
    · cases h
    · show Value.long (if k' = k then x else s.2.1 k') = _
      rw [if_neg (fun e => ?_)]; rfl
      subst e
      have h : (Nat.beq (owJ k').1 j && Nat.beq (owJ k').2 m) = true := h
      rw [hk, Bool.and_eq_true] at h
      exact hne (Nat.eq_of_beq_eq_true h.1).symm
    · rfl
    · cases h
theorem put_J {c ci i k : Nat} {fs : List AV} {x : Int64} (hc : c < 518) (hb : bsS c = .inr (ci, fs)) (hf : fs[i]? = some (aU k)) : (Wd A dT s).set c (A c, .inr (ci, (fs.map (cv (vS A s))).set i (.long x))) = Wd A dT (uJ s k x) := by
  have h0 := okF hc hb hf
  replace h0 : (Nat.beq (owJ k).1 c && Nat.beq (owJ k).2 i) = true := h0
  rw [Bool.and_eq_true] at h0
  have hk : owJ k = (c, i) := Prod.ext (Nat.eq_of_beq_eq_true h0.1) (Nat.eq_of_beq_eq_true h0.2)
  refine Wd_set rfl hc ?_ (fun j hj hne => cC_uJ hk hj hne)
  rw [hb]
  show Sum.inr (ci, _) = Sum.inr (ci, fs.map (cv (vS A (uJ s k x))))
  congr 2
  apply List.ext_getElem?
  intro m
  rw [List.getElem?_set]
  by_cases e : i = m
  · subst e
    rw [if_pos rfl, if_pos (by rw [List.length_map]; exact (List.getElem?_eq_some_iff.mp hf).1), List.getElem?_map, hf]
    show some (Value.long x) = some (Value.long (if k = k then x else _))
    rw [if_pos rfl]
  · rw [if_neg e, List.getElem?_map, List.getElem?_map]
    cases hm : fs[m]? with
    | none => rfl
    | some y =>
      have h := okF hc hb hm
      show some (cv (vS A s) y) = some (cv (vS A (uJ s k x)) y)
      congr 1
      rcases y with z | k' | n | k' | r | k'
      · cases h
      · rfl
      · cases h
      · show _ = Value.long (if k' = k then x else s.2.1 k')
        rw [if_neg (fun e' => ?_)]; rfl
        subst e'
        replace h : (Nat.beq (owJ k').1 c && Nat.beq (owJ k').2 m) = true := h
        rw [hk, Bool.and_eq_true] at h
        exact e (Nat.eq_of_beq_eq_true h.2)
      · rfl
      · cases h
theorem cC_uD {c a i j : Nat} {x : Int64} (hk : owA a = c) (hj : j < 518) (hne : j ≠ c) : cC (vS A (uD s a i x)) dT (bsS j) = cC (vS A s) dT (bsS j) := by
  have h := okCell_at hj
  unfold okCell at h
  cases hb : bsS j with
  | inr q => obtain ⟨ci, fs⟩ := q; rfl
  | inl q =>
    obtain ⟨t, n, b⟩ := q
    rw [hb] at h
    rcases b with l | ⟨lo, hi, a'⟩
    · show Sum.inl (dT t, n, cB _ t n (.inl l)) = Sum.inl (dT t, n, cB _ t n (.inl l))
      rfl
    · have e := Nat.eq_of_beq_eq_true h
      have ne : a' ≠ a := fun q => hne (by rw [← hk, ← q]; exact e.symm)
      show Sum.inl (dT t, n, cB _ t n (.inr (lo, hi, a'))) = Sum.inl (dT t, n, cB _ t n (.inr (lo, hi, a')))
      congr 3
      refine cB_ext (fun _ m _ => rfl) (fun _ m _ => ?_) (fun _ m _ => rfl)
      show (if a' = a then vp_updL (s.2.2.2.1 a) i x else s.2.2.2.1 a') m = s.2.2.2.1 a' m
      rw [if_neg ne]
theorem get_D {c n a : Nat} (hc : c < 518) (hb : bsS c = .inl (1, n, .inr (0, 0, a))) : (Wd A dT s)[c]? = some (A c, .inl (dT 1, n, .inr (.inl (fun j => if j < n then gD s a j else 0)))) := by
  rw [Wd_get hc, hb]
  rfl
theorem put_D {c n a i : Nat} {x : Int64} (hc : c < 518) (hb : bsS c = .inl (1, n, .inr (0, 0, a))) (hi : i < n) : (Wd A dT s).set c (A c, .inl (dT 1, n, .inr (.inl (vp_updL (fun j => if j < n then gD s a j else 0) i x)))) = Wd A dT (uD s a i x) := by
  have h := okCell_at hc
  unfold okCell at h
  rw [hb] at h
  have e := Nat.eq_of_beq_eq_true h
  refine Wd_set rfl hc ?_ (fun j hj hne => cC_uD e hj hne)
  rw [hb]
  have : (vp_updL (fun j => if j < n then gD s a j else 0) i x) = fun j => if j < n then (if a = a then vp_updL (s.2.2.2.1 a) i x else s.2.2.2.1 a) j else 0 := by
    funext j
    rw [if_pos rfl]
    unfold vp_updL
    by_cases q : j = i
    · subst q; rw [if_pos rfl, if_pos hi, if_pos rfl]
    · rw [if_neg q, if_neg q]
  show Sum.inl (dT 1, n, Sum.inr (Sum.inl _)) = Sum.inl (dT 1, n, Sum.inr (Sum.inl _))
  rw [this]; rfl
/-- what is known in an activation of mn -/
def AX (k : kx_T) (mn : Nat) (dT : Nat → ClassId) : Prop := kx_ok k ∧ (kCc k = byA mn ∧ kOwn k = (yA mn).cls ∧ kN k = mNL (miB mn)) ∧ (∀ t, (kTy k)[min t 5]? = some (dT t, tyF t)) ∧ ncX (kS0 k)
section RW
variable {k : kx_T} {mn pc : Nat} {lv : List (Nat × Value)} {st : List Value} {ce sl : Nat}
theorem ax_r (X : AX k mn dT) {r : ARow} (h : cdA mn pc = some r) : rowQ cx0 yA byA rtA hhA mn pc r := (rows_ok (a0 := #[]) X.2.2.2 h).1
theorem ax_d (X : AX k mn dT) {r : ARow} (h : cdA mn pc = some r) : decode (kCc k) pc = .ok (r.1, r.2.1) := by
  rw [X.2.1.1]; exact (ax_r X h).1
/-- rows over the picture -/
theorem s_getI (X : AX k mn dT) (c : Nat) {idx ci f q : Nat} {fs : List AV} (h : cdA mn pc = some (.getfield idx, 3, ci, f, 0)) (hc : c < 518) (hb : bsS c = .inr (ci, fs)) (hf : fs[f]? = some (aS q)) (g : WS k (pc + 3) lv (.int (gI s q) :: st) (Wd A dT s) ce sl) : WS k pc lv (.ref (A c) :: st) (Wd A dT s) ce sl := by
  obtain ⟨c1, c2, c3⟩ := (ax_r X h).2.2
  have he := Wd_get (A := A) (dT := dT) (s := s) hc
  rw [hb] at he
  exact w_get X.1 c c1 he c2 (by rw [X.2.1.2.1]; exact c3) (by rw [List.getElem?_map, hf]; rfl) (ax_d X h) g
theorem s_getR (X : AX k mn dT) (c : Nat) {idx ci f q : Nat} {fs : List AV} (h : cdA mn pc = some (.getfield idx, 3, ci, f, 0)) (hc : c < 518) (hb : bsS c = .inr (ci, fs)) (hf : fs[f]? = some (aR (some q))) (g : WS k (pc + 3) lv (.ref (A q) :: st) (Wd A dT s) ce sl) : WS k pc lv (.ref (A c) :: st) (Wd A dT s) ce sl := by
  obtain ⟨c1, c2, c3⟩ := (ax_r X h).2.2
  have he := Wd_get (A := A) (dT := dT) (s := s) hc
  rw [hb] at he
  exact w_get X.1 c c1 he c2 (by rw [X.2.1.2.1]; exact c3) (by rw [List.getElem?_map, hf]; rfl) (ax_d X h) g
theorem s_putI (X : AX k mn dT) (c : Nat) {idx ci f q : Nat} {fs : List AV} {x : Int32} (h : cdA mn pc = some (.putfield idx, 3, ci, f, 0)) (hc : c < 518) (hb : bsS c = .inr (ci, fs)) (hf : fs[f]? = some (aS q)) (hN : f < (nCl ci).2.1) (hn : narrow ((nCl ci).2.2.2 f) (.int x) = .int x) (ht : fits ((nCl ci).2.2.2 f) (.int x) = true) (hfin : ((nCl ci).2.2.1 f).2.2.2 = false) (g : WS k (pc + 3) lv st (Wd A dT (uI s q x)) ce sl) : WS k pc lv (.int x :: .ref (A c) :: st) (Wd A dT s) ce sl := by
  obtain ⟨c1, c2, -⟩ := (ax_r X h).2.2
  have he := Wd_get (A := A) (dT := dT) (s := s) hc
  rw [hb] at he
  refine w_put X.1 c c1 he hN (by rw [X.2.1.2.1]; exact c2) hn ht (by rw [List.length_map]; exact (List.getElem?_eq_some_iff.mp hf).1) (Or.inl hfin) (ax_d X h) ?_
  rw [put_I hc hb hf]
  exact g
theorem s_iald (X : AX k mn dT) (c : Nat) {n a i : Nat} (h : cdA mn pc = some (.iaload, 1, 0, 0, 0)) (hc : c < 518) (hb : bsS c = .inl (0, n, .inr (0, 0, a))) (hi : i < n) (hn : n < 2147483648) (g : WS k (pc + 1) lv (.int (gC s a i) :: st) (Wd A dT s) ce sl) : WS k pc lv (.int (Int32.ofNat i) :: .ref (A c) :: st) (Wd A dT s) ce sl := by
  refine w_iald X.1 c (get_C (Or.inl rfl) hc hb) (X.2.2.1 0) (on_in hi hn) (ax_d X h) ?_
  show WS k (pc + 1) lv (.int (if (Int32.ofNat i).toNatClampNeg < n then gC s a (Int32.ofNat i).toNatClampNeg else 0) :: st) _ ce sl
  rw [on_cl (by omega), if_pos hi]
  exact g
theorem s_iast (X : AX k mn dT) (c : Nat) {n a i : Nat} {x : Int32} (h : cdA mn pc = some (.iastore, 1, 0, 0, 0)) (hc : c < 518) (hb : bsS c = .inl (0, n, .inr (0, 0, a))) (hi : i < n) (hn : n < 2147483648) (g : WS k (pc + 1) lv st (Wd A dT (uC s a i x)) ce sl) : WS k pc lv (.int x :: .int (Int32.ofNat i) :: .ref (A c) :: st) (Wd A dT s) ce sl := by
  refine w_iast X.1 c (get_C (Or.inl rfl) hc hb) (X.2.2.1 0) (on_in hi hn) (ax_d X h) ?_
  rw [on_cl (by omega), put_C (Or.inl rfl) hc hb hi]
  exact g
theorem s_zald (X : AX k mn dT) (c : Nat) {n a i : Nat} (h : cdA mn pc = some (.baload, 1, 0, 0, 0)) (hc : c < 518) (hb : bsS c = .inl (2, n, .inr (0, 0, a))) (hi : i < n) (hn : n < 2147483648) (g : WS k (pc + 1) lv (.int (gC s a i) :: st) (Wd A dT s) ce sl) : WS k pc lv (.int (Int32.ofNat i) :: .ref (A c) :: st) (Wd A dT s) ce sl := by
  refine w_zald X.1 c (get_C (Or.inr rfl) hc hb) (X.2.2.1 2) (on_in hi hn) (ax_d X h) ?_
  show WS k (pc + 1) lv (.int (if (Int32.ofNat i).toNatClampNeg < n then gC s a (Int32.ofNat i).toNatClampNeg else 0) :: st) _ ce sl
  rw [on_cl (by omega), if_pos hi]
  exact g
theorem s_zast (X : AX k mn dT) (c : Nat) {n a i : Nat} {x : Int32} (h : cdA mn pc = some (.bastore, 1, 0, 0, 0)) (hc : c < 518) (hb : bsS c = .inl (2, n, .inr (0, 0, a))) (hi : i < n) (hn : n < 2147483648) (hx : vp_nar .boolean x = x) (g : WS k (pc + 1) lv st (Wd A dT (uC s a i x)) ce sl) : WS k pc lv (.int x :: .int (Int32.ofNat i) :: .ref (A c) :: st) (Wd A dT s) ce sl := by
  refine w_zast X.1 c (get_C (Or.inr rfl) hc hb) (X.2.2.1 2) (on_in hi hn) (ax_d X h) ?_
  rw [on_cl (by omega), hx, put_C (Or.inr rfl) hc hb hi]
  exact g
theorem s_getJ (X : AX k mn dT) (c : Nat) {idx ci f q : Nat} {fs : List AV} (h : cdA mn pc = some (.getfield idx, 3, ci, f, 0)) (hc : c < 518) (hb : bsS c = .inr (ci, fs)) (hf : fs[f]? = some (aU q)) (g : WS k (pc + 3) lv (.long (gJ s q) :: st) (Wd A dT s) ce sl) : WS k pc lv (.ref (A c) :: st) (Wd A dT s) ce sl := by
  obtain ⟨c1, c2, c3⟩ := (ax_r X h).2.2
  have he := Wd_get (A := A) (dT := dT) (s := s) hc
  rw [hb] at he
  exact w_get X.1 c c1 he c2 (by rw [X.2.1.2.1]; exact c3) (by rw [List.getElem?_map, hf]; rfl) (ax_d X h) g
theorem s_putJ (X : AX k mn dT) (c : Nat) {idx ci f q : Nat} {fs : List AV} {x : Int64} (h : cdA mn pc = some (.putfield idx, 3, ci, f, 0)) (hc : c < 518) (hb : bsS c = .inr (ci, fs)) (hf : fs[f]? = some (aU q)) (hN : f < (nCl ci).2.1) (hn : narrow ((nCl ci).2.2.2 f) (.long x) = .long x) (ht : fits ((nCl ci).2.2.2 f) (.long x) = true) (hfin : ((nCl ci).2.2.1 f).2.2.2 = false) (g : WS k (pc + 3) lv st (Wd A dT (uJ s q x)) ce sl) : WS k pc lv (.long x :: .ref (A c) :: st) (Wd A dT s) ce sl := by
  obtain ⟨c1, c2, -⟩ := (ax_r X h).2.2
  have he := Wd_get (A := A) (dT := dT) (s := s) hc
  rw [hb] at he
  refine w_put X.1 c c1 he hN (by rw [X.2.1.2.1]; exact c2) hn ht (by rw [List.length_map]; exact (List.getElem?_eq_some_iff.mp hf).1) (Or.inl hfin) (ax_d X h) ?_
  rw [put_J hc hb hf]
  exact g
theorem s_lald (X : AX k mn dT) (c : Nat) {n a i : Nat} (h : cdA mn pc = some (.laload, 1, 0, 0, 0)) (hc : c < 518) (hb : bsS c = .inl (1, n, .inr (0, 0, a))) (hi : i < n) (hn : n < 2147483648) (g : WS k (pc + 1) lv (.long (gD s a i) :: st) (Wd A dT s) ce sl) : WS k pc lv (.int (Int32.ofNat i) :: .ref (A c) :: st) (Wd A dT s) ce sl := by
  refine w_lald X.1 c (get_D hc hb) (X.2.2.1 1) (on_in hi hn) (ax_d X h) ?_
  show WS k (pc + 1) lv (.long (if (Int32.ofNat i).toNatClampNeg < n then gD s a (Int32.ofNat i).toNatClampNeg else 0) :: st) _ ce sl
  rw [on_cl (by omega), if_pos hi]
  exact g
theorem s_last (X : AX k mn dT) (c : Nat) {n a i : Nat} {x : Int64} (h : cdA mn pc = some (.lastore, 1, 0, 0, 0)) (hc : c < 518) (hb : bsS c = .inl (1, n, .inr (0, 0, a))) (hi : i < n) (hn : n < 2147483648) (g : WS k (pc + 1) lv st (Wd A dT (uD s a i x)) ce sl) : WS k pc lv (.long x :: .int (Int32.ofNat i) :: .ref (A c) :: st) (Wd A dT s) ce sl := by
  refine w_last X.1 c (get_D hc hb) (X.2.2.1 1) (on_in hi hn) (ax_d X h) ?_
  rw [on_cl (by omega), put_D hc hb hi]
  exact g
end RW
end WP
