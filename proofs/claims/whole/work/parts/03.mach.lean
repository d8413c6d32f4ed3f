/-! the layout: kinds of the cells (0 an object, its class; 1 ints, 2 longs, 3 references, 4 static ints: length; 5 the script), their references -/
def zm_kd2 : Nat → Nat × Nat := fun a => cond (Nat.blt a 1002) (cond (Nat.blt a 1001) (cond (Nat.beq a 1000) ((4, 12)) ((9, 0))) (cond (Nat.beq a 1001) ((4, 12)) ((9, 0)))) (cond (Nat.blt a 1003) (cond (Nat.beq a 1002) ((4, 8)) ((9, 0))) (cond (Nat.blt a 2000) (cond (Nat.beq a 1003) ((4, 32)) ((9, 0))) (cond (Nat.beq a 2000) ((5, 0)) ((9, 0)))))
def zm_kd : Nat → Nat × Nat := fun a => cond (Nat.blt a 83) (cond (Nat.blt a 41) (cond (Nat.blt a 20) (cond (Nat.blt a 10) (cond (Nat.blt a 5) (cond (Nat.blt a 2) (cond (Nat.blt a 1) (cond (Nat.beq a 0) ((0, 9)) ((9, 0))) (cond (Nat.beq a 1) ((0, 5)) ((9, 0)))) (cond (Nat.blt a 3) (cond (Nat.beq a 2) ((1, 104)) ((9, 0))) (cond (Nat.blt a 4) (cond (Nat.beq a 3) ((0, 0)) ((9, 0))) (cond (Nat.beq a 4) ((1, 40)) ((9, 0)))))) (cond (Nat.blt a 7) (cond (Nat.blt a 6) (cond (Nat.beq a 5) ((1, 40)) ((9, 0))) (cond (Nat.beq a 6) ((1, 40)) ((9, 0)))) (cond (Nat.blt a 8) (cond (Nat.beq a 7) ((1, 40)) ((9, 0))) (cond (Nat.blt a 9) (cond (Nat.beq a 8) ((0, 6)) ((9, 0))) (cond (Nat.beq a 9) ((1, 120)) ((9, 0))))))) (cond (Nat.blt a 15) (cond (Nat.blt a 12) (cond (Nat.blt a 11) (cond (Nat.beq a 10) ((1, 128)) ((9, 0))) (cond (Nat.beq a 11) ((0, 3)) ((9, 0)))) (cond (Nat.blt a 13) (cond (Nat.beq a 12) ((1, 128)) ((9, 0))) (cond (Nat.blt a 14) (cond (Nat.beq a 13) ((1, 64)) ((9, 0))) (cond (Nat.beq a 14) ((0, 2)) ((9, 0)))))) (cond (Nat.blt a 17) (cond (Nat.blt a 16) (cond (Nat.beq a 15) ((0, 1)) ((9, 0))) (cond (Nat.beq a 16) ((1, 6)) ((9, 0)))) (cond (Nat.blt a 18) (cond (Nat.beq a 17) ((1, 6)) ((9, 0))) (cond (Nat.blt a 19) (cond (Nat.beq a 18) ((1, 6)) ((9, 0))) (cond (Nat.beq a 19) ((1, 6)) ((9, 0)))))))) (cond (Nat.blt a 30) (cond (Nat.blt a 25) (cond (Nat.blt a 22) (cond (Nat.blt a 21) (cond (Nat.beq a 20) ((1, 6)) ((9, 0))) (cond (Nat.beq a 21) ((1, 42)) ((9, 0)))) (cond (Nat.blt a 23) (cond (Nat.beq a 22) ((1, 7)) ((9, 0))) (cond (Nat.blt a 24) (cond (Nat.beq a 23) ((0, 4)) ((9, 0))) (cond (Nat.beq a 24) ((1, 8)) ((9, 0)))))) (cond (Nat.blt a 27) (cond (Nat.blt a 26) (cond (Nat.beq a 25) ((1, 8)) ((9, 0))) (cond (Nat.beq a 26) ((0, 4)) ((9, 0)))) (cond (Nat.blt a 28) (cond (Nat.beq a 27) ((1, 8)) ((9, 0))) (cond (Nat.blt a 29) (cond (Nat.beq a 28) ((1, 8)) ((9, 0))) (cond (Nat.beq a 29) ((0, 8)) ((9, 0))))))) (cond (Nat.blt a 35) (cond (Nat.blt a 32) (cond (Nat.blt a 31) (cond (Nat.beq a 30) ((1, 50)) ((9, 0))) (cond (Nat.beq a 31) ((1, 24)) ((9, 0)))) (cond (Nat.blt a 33) (cond (Nat.beq a 32) ((3, 6)) ((9, 0))) (cond (Nat.blt a 34) (cond (Nat.beq a 33) ((0, 7)) ((9, 0))) (cond (Nat.beq a 34) ((0, 7)) ((9, 0)))))) (cond (Nat.blt a 38) (cond (Nat.blt a 36) (cond (Nat.beq a 35) ((0, 7)) ((9, 0))) (cond (Nat.blt a 37) (cond (Nat.beq a 36) ((0, 7)) ((9, 0))) (cond (Nat.beq a 37) ((0, 7)) ((9, 0))))) (cond (Nat.blt a 39) (cond (Nat.beq a 38) ((0, 7)) ((9, 0))) (cond (Nat.blt a 40) (cond (Nat.beq a 39) ((2, 60)) ((9, 0))) (cond (Nat.beq a 40) ((2, 60)) ((9, 0))))))))) (cond (Nat.blt a 62) (cond (Nat.blt a 51) (cond (Nat.blt a 46) (cond (Nat.blt a 43) (cond (Nat.blt a 42) (cond (Nat.beq a 41) ((2, 60)) ((9, 0))) (cond (Nat.beq a 42) ((2, 60)) ((9, 0)))) (cond (Nat.blt a 44) (cond (Nat.beq a 43) ((2, 60)) ((9, 0))) (cond (Nat.blt a 45) (cond (Nat.beq a 44) ((2, 60)) ((9, 0))) (cond (Nat.beq a 45) ((0, 10)) ((9, 0)))))) (cond (Nat.blt a 48) (cond (Nat.blt a 47) (cond (Nat.beq a 46) ((1, 8)) ((9, 0))) (cond (Nat.beq a 47) ((1, 8)) ((9, 0)))) (cond (Nat.blt a 49) (cond (Nat.beq a 48) ((1, 8)) ((9, 0))) (cond (Nat.blt a 50) (cond (Nat.beq a 49) ((1, 8)) ((9, 0))) (cond (Nat.beq a 50) ((1, 8)) ((9, 0))))))) (cond (Nat.blt a 56) (cond (Nat.blt a 53) (cond (Nat.blt a 52) (cond (Nat.beq a 51) ((1, 8)) ((9, 0))) (cond (Nat.beq a 52) ((1, 5)) ((9, 0)))) (cond (Nat.blt a 54) (cond (Nat.beq a 53) ((1, 7)) ((9, 0))) (cond (Nat.blt a 55) (cond (Nat.beq a 54) ((1, 7)) ((9, 0))) (cond (Nat.beq a 55) ((1, 7)) ((9, 0)))))) (cond (Nat.blt a 59) (cond (Nat.blt a 57) (cond (Nat.beq a 56) ((1, 120)) ((9, 0))) (cond (Nat.blt a 58) (cond (Nat.beq a 57) ((1, 60)) ((9, 0))) (cond (Nat.beq a 58) ((1, 60)) ((9, 0))))) (cond (Nat.blt a 60) (cond (Nat.beq a 59) ((1, 60)) ((9, 0))) (cond (Nat.blt a 61) (cond (Nat.beq a 60) ((1, 200)) ((9, 0))) (cond (Nat.beq a 61) ((1, 61)) ((9, 0)))))))) (cond (Nat.blt a 72) (cond (Nat.blt a 67) (cond (Nat.blt a 64) (cond (Nat.blt a 63) (cond (Nat.beq a 62) ((1, 61)) ((9, 0))) (cond (Nat.beq a 63) ((1, 61)) ((9, 0)))) (cond (Nat.blt a 65) (cond (Nat.beq a 64) ((1, 200)) ((9, 0))) (cond (Nat.blt a 66) (cond (Nat.beq a 65) ((1, 200)) ((9, 0))) (cond (Nat.beq a 66) ((1, 4)) ((9, 0)))))) (cond (Nat.blt a 69) (cond (Nat.blt a 68) (cond (Nat.beq a 67) ((1, 8)) ((9, 0))) (cond (Nat.beq a 68) ((1, 8)) ((9, 0)))) (cond (Nat.blt a 70) (cond (Nat.beq a 69) ((1, 4)) ((9, 0))) (cond (Nat.blt a 71) (cond (Nat.beq a 70) ((1, 160)) ((9, 0))) (cond (Nat.beq a 71) ((1, 50)) ((9, 0))))))) (cond (Nat.blt a 77) (cond (Nat.blt a 74) (cond (Nat.blt a 73) (cond (Nat.beq a 72) ((1, 24)) ((9, 0))) (cond (Nat.beq a 73) ((1, 6)) ((9, 0)))) (cond (Nat.blt a 75) (cond (Nat.beq a 74) ((1, 6)) ((9, 0))) (cond (Nat.blt a 76) (cond (Nat.beq a 75) ((2, 360)) ((9, 0))) (cond (Nat.beq a 76) ((1, 6)) ((9, 0)))))) (cond (Nat.blt a 80) (cond (Nat.blt a 78) (cond (Nat.beq a 77) ((1, 6)) ((9, 0))) (cond (Nat.blt a 79) (cond (Nat.beq a 78) ((1, 6)) ((9, 0))) (cond (Nat.beq a 79) ((1, 7)) ((9, 0))))) (cond (Nat.blt a 81) (cond (Nat.beq a 80) ((1, 6)) ((9, 0))) (cond (Nat.blt a 82) (cond (Nat.beq a 81) ((1, 6)) ((9, 0))) (cond (Nat.beq a 82) ((1, 6)) ((9, 0)))))))))) (zm_kd2 a)
def zm_rt : Nat → Nat → Nat := fun a k => cond (Nat.blt a 29) (cond (Nat.blt a 11) (cond (Nat.blt a 3) (cond (Nat.blt a 1) (cond (Nat.beq a 0) (cond (Nat.blt k 5) (cond (Nat.blt k 2) (cond (Nat.blt k 1) (cond (Nat.beq k 0) (1) (0)) (cond (Nat.beq k 1) (3) (0))) (cond (Nat.blt k 3) (cond (Nat.beq k 2) (8) (0)) (cond (Nat.blt k 4) (cond (Nat.beq k 3) (11) (0)) (cond (Nat.beq k 4) (14) (0))))) (cond (Nat.blt k 7) (cond (Nat.blt k 6) (cond (Nat.beq k 5) (15) (0)) (cond (Nat.beq k 6) (23) (0))) (cond (Nat.blt k 8) (cond (Nat.beq k 7) (26) (0)) (cond (Nat.blt k 9) (cond (Nat.beq k 8) (29) (0)) (cond (Nat.beq k 9) (32) (0)))))) (0)) (cond (Nat.beq a 1) (cond (Nat.beq k 0) (2) (0)) (0))) (cond (Nat.blt a 8) (cond (Nat.beq a 3) (cond (Nat.blt k 2) (cond (Nat.blt k 1) (cond (Nat.beq k 0) (4) (0)) (cond (Nat.beq k 1) (5) (0))) (cond (Nat.blt k 3) (cond (Nat.beq k 2) (6) (0)) (cond (Nat.beq k 3) (7) (0)))) (0)) (cond (Nat.beq a 8) (cond (Nat.blt k 1) (cond (Nat.beq k 0) (9) (0)) (cond (Nat.beq k 1) (10) (0))) (0)))) (cond (Nat.blt a 15) (cond (Nat.blt a 14) (cond (Nat.beq a 11) (cond (Nat.blt k 1) (cond (Nat.beq k 0) (12) (0)) (cond (Nat.beq k 1) (13) (0))) (0)) (cond (Nat.beq a 14) (cond (Nat.beq k 0) (11) (0)) (0))) (cond (Nat.blt a 23) (cond (Nat.beq a 15) (cond (Nat.blt k 3) (cond (Nat.blt k 1) (cond (Nat.beq k 0) (16) (0)) (cond (Nat.blt k 2) (cond (Nat.beq k 1) (17) (0)) (cond (Nat.beq k 2) (18) (0)))) (cond (Nat.blt k 5) (cond (Nat.blt k 4) (cond (Nat.beq k 3) (19) (0)) (cond (Nat.beq k 4) (20) (0))) (cond (Nat.blt k 6) (cond (Nat.beq k 5) (21) (0)) (cond (Nat.beq k 6) (22) (0))))) (0)) (cond (Nat.blt a 26) (cond (Nat.beq a 23) (cond (Nat.blt k 1) (cond (Nat.beq k 0) (24) (0)) (cond (Nat.beq k 1) (25) (0))) (0)) (cond (Nat.beq a 26) (cond (Nat.blt k 1) (cond (Nat.beq k 0) (27) (0)) (cond (Nat.beq k 1) (28) (0))) (0)))))) (cond (Nat.blt a 35) (cond (Nat.blt a 33) (cond (Nat.blt a 32) (cond (Nat.beq a 29) (cond (Nat.blt k 1) (cond (Nat.beq k 0) (30) (0)) (cond (Nat.beq k 1) (31) (0))) (0)) (cond (Nat.beq a 32) (Nat.add 33 k) (0))) (cond (Nat.blt a 34) (cond (Nat.beq a 33) (cond (Nat.beq k 0) (39) (0)) (0)) (cond (Nat.beq a 34) (cond (Nat.beq k 0) (40) (0)) (0)))) (cond (Nat.blt a 37) (cond (Nat.blt a 36) (cond (Nat.beq a 35) (cond (Nat.beq k 0) (41) (0)) (0)) (cond (Nat.beq a 36) (cond (Nat.beq k 0) (42) (0)) (0))) (cond (Nat.blt a 38) (cond (Nat.beq a 37) (cond (Nat.beq k 0) (43) (0)) (0)) (cond (Nat.blt a 45) (cond (Nat.beq a 38) (cond (Nat.beq k 0) (44) (0)) (0)) (cond (Nat.beq a 45) (cond (Nat.blt k 30) (cond (Nat.blt k 14) (cond (Nat.blt k 5) (cond (Nat.blt k 3) (cond (Nat.blt k 2) (cond (Nat.beq k 1) (46) (0)) (cond (Nat.beq k 2) (47) (0))) (cond (Nat.blt k 4) (cond (Nat.beq k 3) (48) (0)) (cond (Nat.beq k 4) (49) (0)))) (cond (Nat.blt k 7) (cond (Nat.blt k 6) (cond (Nat.beq k 5) (50) (0)) (cond (Nat.beq k 6) (51) (0))) (cond (Nat.blt k 12) (cond (Nat.beq k 7) (52) (0)) (cond (Nat.blt k 13) (cond (Nat.beq k 12) (53) (0)) (cond (Nat.beq k 13) (54) (0)))))) (cond (Nat.blt k 21) (cond (Nat.blt k 19) (cond (Nat.blt k 16) (cond (Nat.beq k 14) (55) (0)) (cond (Nat.beq k 16) (56) (0))) (cond (Nat.blt k 20) (cond (Nat.beq k 19) (57) (0)) (cond (Nat.beq k 20) (58) (0)))) (cond (Nat.blt k 27) (cond (Nat.blt k 22) (cond (Nat.beq k 21) (59) (0)) (cond (Nat.beq k 22) (60) (0))) (cond (Nat.blt k 28) (cond (Nat.beq k 27) (61) (0)) (cond (Nat.blt k 29) (cond (Nat.beq k 28) (62) (0)) (cond (Nat.beq k 29) (63) (0))))))) (cond (Nat.blt k 45) (cond (Nat.blt k 36) (cond (Nat.blt k 32) (cond (Nat.blt k 31) (cond (Nat.beq k 30) (64) (0)) (cond (Nat.beq k 31) (65) (0))) (cond (Nat.blt k 35) (cond (Nat.beq k 32) (66) (0)) (cond (Nat.beq k 35) (67) (0)))) (cond (Nat.blt k 40) (cond (Nat.blt k 37) (cond (Nat.beq k 36) (68) (0)) (cond (Nat.beq k 37) (69) (0))) (cond (Nat.blt k 42) (cond (Nat.beq k 40) (70) (0)) (cond (Nat.blt k 44) (cond (Nat.beq k 42) (71) (0)) (cond (Nat.beq k 44) (72) (0)))))) (cond (Nat.blt k 52) (cond (Nat.blt k 47) (cond (Nat.blt k 46) (cond (Nat.beq k 45) (73) (0)) (cond (Nat.beq k 46) (74) (0))) (cond (Nat.blt k 50) (cond (Nat.beq k 47) (75) (0)) (cond (Nat.blt k 51) (cond (Nat.beq k 50) (76) (0)) (cond (Nat.beq k 51) (77) (0))))) (cond (Nat.blt k 54) (cond (Nat.blt k 53) (cond (Nat.beq k 52) (78) (0)) (cond (Nat.beq k 53) (79) (0))) (cond (Nat.blt k 55) (cond (Nat.beq k 54) (80) (0)) (cond (Nat.blt k 56) (cond (Nat.beq k 55) (81) (0)) (cond (Nat.beq k 56) (82) (0)))))))) (0))))))
abbrev zm_NC : Nat := 83
def zm_isB : Nat → Bool := fun mi => cond (Nat.blt mi 120) (cond (Nat.blt mi 60) (cond (Nat.blt mi 30) (cond (Nat.blt mi 15) (cond (Nat.blt mi 7) (cond (Nat.blt mi 3) (cond (Nat.blt mi 1) (cond (Nat.beq mi 0) (false) (false)) (cond (Nat.blt mi 2) (cond (Nat.beq mi 1) (false) (false)) (cond (Nat.beq mi 2) (false) (false)))) (cond (Nat.blt mi 5) (cond (Nat.blt mi 4) (cond (Nat.beq mi 3) (false) (false)) (cond (Nat.beq mi 4) (false) (false))) (cond (Nat.blt mi 6) (cond (Nat.beq mi 5) (false) (false)) (cond (Nat.beq mi 6) (false) (false))))) (cond (Nat.blt mi 11) (cond (Nat.blt mi 9) (cond (Nat.blt mi 8) (cond (Nat.beq mi 7) (false) (false)) (cond (Nat.beq mi 8) (false) (false))) (cond (Nat.blt mi 10) (cond (Nat.beq mi 9) (false) (false)) (cond (Nat.beq mi 10) (true) (false)))) (cond (Nat.blt mi 13) (cond (Nat.blt mi 12) (cond (Nat.beq mi 11) (false) (false)) (cond (Nat.beq mi 12) (false) (false))) (cond (Nat.blt mi 14) (cond (Nat.beq mi 13) (false) (false)) (cond (Nat.beq mi 14) (false) (false)))))) (cond (Nat.blt mi 22) (cond (Nat.blt mi 18) (cond (Nat.blt mi 16) (cond (Nat.beq mi 15) (false) (false)) (cond (Nat.blt mi 17) (cond (Nat.beq mi 16) (true) (false)) (cond (Nat.beq mi 17) (false) (false)))) (cond (Nat.blt mi 20) (cond (Nat.blt mi 19) (cond (Nat.beq mi 18) (false) (false)) (cond (Nat.beq mi 19) (false) (false))) (cond (Nat.blt mi 21) (cond (Nat.beq mi 20) (false) (false)) (cond (Nat.beq mi 21) (false) (false))))) (cond (Nat.blt mi 26) (cond (Nat.blt mi 24) (cond (Nat.blt mi 23) (cond (Nat.beq mi 22) (true) (false)) (cond (Nat.beq mi 23) (true) (false))) (cond (Nat.blt mi 25) (cond (Nat.beq mi 24) (false) (false)) (cond (Nat.beq mi 25) (false) (false)))) (cond (Nat.blt mi 28) (cond (Nat.blt mi 27) (cond (Nat.beq mi 26) (false) (false)) (cond (Nat.beq mi 27) (false) (false))) (cond (Nat.blt mi 29) (cond (Nat.beq mi 28) (false) (false)) (cond (Nat.beq mi 29) (false) (false))))))) (cond (Nat.blt mi 45) (cond (Nat.blt mi 37) (cond (Nat.blt mi 33) (cond (Nat.blt mi 31) (cond (Nat.beq mi 30) (false) (false)) (cond (Nat.blt mi 32) (cond (Nat.beq mi 31) (false) (false)) (cond (Nat.beq mi 32) (true) (false)))) (cond (Nat.blt mi 35) (cond (Nat.blt mi 34) (cond (Nat.beq mi 33) (false) (false)) (cond (Nat.beq mi 34) (false) (false))) (cond (Nat.blt mi 36) (cond (Nat.beq mi 35) (false) (false)) (cond (Nat.beq mi 36) (false) (false))))) (cond (Nat.blt mi 41) (cond (Nat.blt mi 39) (cond (Nat.blt mi 38) (cond (Nat.beq mi 37) (false) (false)) (cond (Nat.beq mi 38) (false) (false))) (cond (Nat.blt mi 40) (cond (Nat.beq mi 39) (false) (false)) (cond (Nat.beq mi 40) (false) (false)))) (cond (Nat.blt mi 43) (cond (Nat.blt mi 42) (cond (Nat.beq mi 41) (false) (false)) (cond (Nat.beq mi 42) (false) (false))) (cond (Nat.blt mi 44) (cond (Nat.beq mi 43) (true) (false)) (cond (Nat.beq mi 44) (false) (false)))))) (cond (Nat.blt mi 52) (cond (Nat.blt mi 48) (cond (Nat.blt mi 46) (cond (Nat.beq mi 45) (false) (false)) (cond (Nat.blt mi 47) (cond (Nat.beq mi 46) (false) (false)) (cond (Nat.beq mi 47) (false) (false)))) (cond (Nat.blt mi 50) (cond (Nat.blt mi 49) (cond (Nat.beq mi 48) (false) (false)) (cond (Nat.beq mi 49) (false) (false))) (cond (Nat.blt mi 51) (cond (Nat.beq mi 50) (false) (false)) (cond (Nat.beq mi 51) (true) (false))))) (cond (Nat.blt mi 56) (cond (Nat.blt mi 54) (cond (Nat.blt mi 53) (cond (Nat.beq mi 52) (true) (false)) (cond (Nat.beq mi 53) (true) (false))) (cond (Nat.blt mi 55) (cond (Nat.beq mi 54) (true) (false)) (cond (Nat.beq mi 55) (false) (false)))) (cond (Nat.blt mi 58) (cond (Nat.blt mi 57) (cond (Nat.beq mi 56) (true) (false)) (cond (Nat.beq mi 57) (false) (false))) (cond (Nat.blt mi 59) (cond (Nat.beq mi 58) (true) (false)) (cond (Nat.beq mi 59) (true) (false)))))))) (cond (Nat.blt mi 90) (cond (Nat.blt mi 75) (cond (Nat.blt mi 67) (cond (Nat.blt mi 63) (cond (Nat.blt mi 61) (cond (Nat.beq mi 60) (true) (false)) (cond (Nat.blt mi 62) (cond (Nat.beq mi 61) (false) (false)) (cond (Nat.beq mi 62) (true) (false)))) (cond (Nat.blt mi 65) (cond (Nat.blt mi 64) (cond (Nat.beq mi 63) (true) (false)) (cond (Nat.beq mi 64) (true) (false))) (cond (Nat.blt mi 66) (cond (Nat.beq mi 65) (true) (false)) (cond (Nat.beq mi 66) (false) (false))))) (cond (Nat.blt mi 71) (cond (Nat.blt mi 69) (cond (Nat.blt mi 68) (cond (Nat.beq mi 67) (false) (false)) (cond (Nat.beq mi 68) (false) (false))) (cond (Nat.blt mi 70) (cond (Nat.beq mi 69) (false) (false)) (cond (Nat.beq mi 70) (false) (false)))) (cond (Nat.blt mi 73) (cond (Nat.blt mi 72) (cond (Nat.beq mi 71) (false) (false)) (cond (Nat.beq mi 72) (true) (false))) (cond (Nat.blt mi 74) (cond (Nat.beq mi 73) (false) (false)) (cond (Nat.beq mi 74) (true) (false)))))) (cond (Nat.blt mi 82) (cond (Nat.blt mi 78) (cond (Nat.blt mi 76) (cond (Nat.beq mi 75) (false) (false)) (cond (Nat.blt mi 77) (cond (Nat.beq mi 76) (false) (false)) (cond (Nat.beq mi 77) (false) (false)))) (cond (Nat.blt mi 80) (cond (Nat.blt mi 79) (cond (Nat.beq mi 78) (false) (false)) (cond (Nat.beq mi 79) (false) (false))) (cond (Nat.blt mi 81) (cond (Nat.beq mi 80) (false) (false)) (cond (Nat.beq mi 81) (false) (false))))) (cond (Nat.blt mi 86) (cond (Nat.blt mi 84) (cond (Nat.blt mi 83) (cond (Nat.beq mi 82) (false) (false)) (cond (Nat.beq mi 83) (false) (false))) (cond (Nat.blt mi 85) (cond (Nat.beq mi 84) (false) (false)) (cond (Nat.beq mi 85) (false) (false)))) (cond (Nat.blt mi 88) (cond (Nat.blt mi 87) (cond (Nat.beq mi 86) (false) (false)) (cond (Nat.beq mi 87) (false) (false))) (cond (Nat.blt mi 89) (cond (Nat.beq mi 88) (false) (false)) (cond (Nat.beq mi 89) (false) (false))))))) (cond (Nat.blt mi 105) (cond (Nat.blt mi 97) (cond (Nat.blt mi 93) (cond (Nat.blt mi 91) (cond (Nat.beq mi 90) (false) (false)) (cond (Nat.blt mi 92) (cond (Nat.beq mi 91) (false) (false)) (cond (Nat.beq mi 92) (false) (false)))) (cond (Nat.blt mi 95) (cond (Nat.blt mi 94) (cond (Nat.beq mi 93) (false) (false)) (cond (Nat.beq mi 94) (false) (false))) (cond (Nat.blt mi 96) (cond (Nat.beq mi 95) (false) (false)) (cond (Nat.beq mi 96) (false) (false))))) (cond (Nat.blt mi 101) (cond (Nat.blt mi 99) (cond (Nat.blt mi 98) (cond (Nat.beq mi 97) (false) (false)) (cond (Nat.beq mi 98) (false) (false))) (cond (Nat.blt mi 100) (cond (Nat.beq mi 99) (false) (false)) (cond (Nat.beq mi 100) (false) (false)))) (cond (Nat.blt mi 103) (cond (Nat.blt mi 102) (cond (Nat.beq mi 101) (false) (false)) (cond (Nat.beq mi 102) (false) (false))) (cond (Nat.blt mi 104) (cond (Nat.beq mi 103) (false) (false)) (cond (Nat.beq mi 104) (false) (false)))))) (cond (Nat.blt mi 112) (cond (Nat.blt mi 108) (cond (Nat.blt mi 106) (cond (Nat.beq mi 105) (false) (false)) (cond (Nat.blt mi 107) (cond (Nat.beq mi 106) (false) (false)) (cond (Nat.beq mi 107) (false) (false)))) (cond (Nat.blt mi 110) (cond (Nat.blt mi 109) (cond (Nat.beq mi 108) (false) (false)) (cond (Nat.beq mi 109) (false) (false))) (cond (Nat.blt mi 111) (cond (Nat.beq mi 110) (false) (false)) (cond (Nat.beq mi 111) (false) (false))))) (cond (Nat.blt mi 116) (cond (Nat.blt mi 114) (cond (Nat.blt mi 113) (cond (Nat.beq mi 112) (false) (false)) (cond (Nat.beq mi 113) (false) (false))) (cond (Nat.blt mi 115) (cond (Nat.beq mi 114) (false) (false)) (cond (Nat.beq mi 115) (false) (false)))) (cond (Nat.blt mi 118) (cond (Nat.blt mi 117) (cond (Nat.beq mi 116) (false) (false)) (cond (Nat.beq mi 117) (false) (false))) (cond (Nat.blt mi 119) (cond (Nat.beq mi 118) (false) (false)) (cond (Nat.beq mi 119) (false) (false))))))))) (cond (Nat.blt mi 180) (cond (Nat.blt mi 150) (cond (Nat.blt mi 135) (cond (Nat.blt mi 127) (cond (Nat.blt mi 123) (cond (Nat.blt mi 121) (cond (Nat.beq mi 120) (false) (false)) (cond (Nat.blt mi 122) (cond (Nat.beq mi 121) (false) (false)) (cond (Nat.beq mi 122) (false) (false)))) (cond (Nat.blt mi 125) (cond (Nat.blt mi 124) (cond (Nat.beq mi 123) (false) (false)) (cond (Nat.beq mi 124) (false) (false))) (cond (Nat.blt mi 126) (cond (Nat.beq mi 125) (false) (false)) (cond (Nat.beq mi 126) (true) (false))))) (cond (Nat.blt mi 131) (cond (Nat.blt mi 129) (cond (Nat.blt mi 128) (cond (Nat.beq mi 127) (true) (false)) (cond (Nat.beq mi 128) (true) (false))) (cond (Nat.blt mi 130) (cond (Nat.beq mi 129) (true) (false)) (cond (Nat.beq mi 130) (true) (false)))) (cond (Nat.blt mi 133) (cond (Nat.blt mi 132) (cond (Nat.beq mi 131) (true) (false)) (cond (Nat.beq mi 132) (true) (false))) (cond (Nat.blt mi 134) (cond (Nat.beq mi 133) (false) (false)) (cond (Nat.beq mi 134) (true) (false)))))) (cond (Nat.blt mi 142) (cond (Nat.blt mi 138) (cond (Nat.blt mi 136) (cond (Nat.beq mi 135) (false) (false)) (cond (Nat.blt mi 137) (cond (Nat.beq mi 136) (false) (false)) (cond (Nat.beq mi 137) (false) (false)))) (cond (Nat.blt mi 140) (cond (Nat.blt mi 139) (cond (Nat.beq mi 138) (false) (false)) (cond (Nat.beq mi 139) (false) (false))) (cond (Nat.blt mi 141) (cond (Nat.beq mi 140) (false) (false)) (cond (Nat.beq mi 141) (true) (false))))) (cond (Nat.blt mi 146) (cond (Nat.blt mi 144) (cond (Nat.blt mi 143) (cond (Nat.beq mi 142) (true) (false)) (cond (Nat.beq mi 143) (true) (false))) (cond (Nat.blt mi 145) (cond (Nat.beq mi 144) (true) (false)) (cond (Nat.beq mi 145) (true) (false)))) (cond (Nat.blt mi 148) (cond (Nat.blt mi 147) (cond (Nat.beq mi 146) (true) (false)) (cond (Nat.beq mi 147) (true) (false))) (cond (Nat.blt mi 149) (cond (Nat.beq mi 148) (true) (false)) (cond (Nat.beq mi 149) (true) (false))))))) (cond (Nat.blt mi 165) (cond (Nat.blt mi 157) (cond (Nat.blt mi 153) (cond (Nat.blt mi 151) (cond (Nat.beq mi 150) (false) (false)) (cond (Nat.blt mi 152) (cond (Nat.beq mi 151) (false) (false)) (cond (Nat.beq mi 152) (false) (false)))) (cond (Nat.blt mi 155) (cond (Nat.blt mi 154) (cond (Nat.beq mi 153) (false) (false)) (cond (Nat.beq mi 154) (true) (false))) (cond (Nat.blt mi 156) (cond (Nat.beq mi 155) (true) (false)) (cond (Nat.beq mi 156) (false) (false))))) (cond (Nat.blt mi 161) (cond (Nat.blt mi 159) (cond (Nat.blt mi 158) (cond (Nat.beq mi 157) (false) (false)) (cond (Nat.beq mi 158) (false) (false))) (cond (Nat.blt mi 160) (cond (Nat.beq mi 159) (false) (false)) (cond (Nat.beq mi 160) (false) (false)))) (cond (Nat.blt mi 163) (cond (Nat.blt mi 162) (cond (Nat.beq mi 161) (false) (false)) (cond (Nat.beq mi 162) (false) (false))) (cond (Nat.blt mi 164) (cond (Nat.beq mi 163) (false) (false)) (cond (Nat.beq mi 164) (true) (false)))))) (cond (Nat.blt mi 172) (cond (Nat.blt mi 168) (cond (Nat.blt mi 166) (cond (Nat.beq mi 165) (true) (false)) (cond (Nat.blt mi 167) (cond (Nat.beq mi 166) (true) (false)) (cond (Nat.beq mi 167) (false) (false)))) (cond (Nat.blt mi 170) (cond (Nat.blt mi 169) (cond (Nat.beq mi 168) (true) (false)) (cond (Nat.beq mi 169) (true) (false))) (cond (Nat.blt mi 171) (cond (Nat.beq mi 170) (true) (false)) (cond (Nat.beq mi 171) (true) (false))))) (cond (Nat.blt mi 176) (cond (Nat.blt mi 174) (cond (Nat.blt mi 173) (cond (Nat.beq mi 172) (true) (false)) (cond (Nat.beq mi 173) (true) (false))) (cond (Nat.blt mi 175) (cond (Nat.beq mi 174) (true) (false)) (cond (Nat.beq mi 175) (false) (false)))) (cond (Nat.blt mi 178) (cond (Nat.blt mi 177) (cond (Nat.beq mi 176) (false) (false)) (cond (Nat.beq mi 177) (false) (false))) (cond (Nat.blt mi 179) (cond (Nat.beq mi 178) (false) (false)) (cond (Nat.beq mi 179) (false) (false)))))))) (cond (Nat.blt mi 210) (cond (Nat.blt mi 195) (cond (Nat.blt mi 187) (cond (Nat.blt mi 183) (cond (Nat.blt mi 181) (cond (Nat.beq mi 180) (true) (false)) (cond (Nat.blt mi 182) (cond (Nat.beq mi 181) (true) (false)) (cond (Nat.beq mi 182) (false) (false)))) (cond (Nat.blt mi 185) (cond (Nat.blt mi 184) (cond (Nat.beq mi 183) (false) (false)) (cond (Nat.beq mi 184) (false) (false))) (cond (Nat.blt mi 186) (cond (Nat.beq mi 185) (false) (false)) (cond (Nat.beq mi 186) (false) (false))))) (cond (Nat.blt mi 191) (cond (Nat.blt mi 189) (cond (Nat.blt mi 188) (cond (Nat.beq mi 187) (false) (false)) (cond (Nat.beq mi 188) (false) (false))) (cond (Nat.blt mi 190) (cond (Nat.beq mi 189) (false) (false)) (cond (Nat.beq mi 190) (false) (false)))) (cond (Nat.blt mi 193) (cond (Nat.blt mi 192) (cond (Nat.beq mi 191) (false) (false)) (cond (Nat.beq mi 192) (false) (false))) (cond (Nat.blt mi 194) (cond (Nat.beq mi 193) (false) (false)) (cond (Nat.beq mi 194) (false) (false)))))) (cond (Nat.blt mi 202) (cond (Nat.blt mi 198) (cond (Nat.blt mi 196) (cond (Nat.beq mi 195) (false) (false)) (cond (Nat.blt mi 197) (cond (Nat.beq mi 196) (false) (false)) (cond (Nat.beq mi 197) (false) (false)))) (cond (Nat.blt mi 200) (cond (Nat.blt mi 199) (cond (Nat.beq mi 198) (false) (false)) (cond (Nat.beq mi 199) (false) (false))) (cond (Nat.blt mi 201) (cond (Nat.beq mi 200) (false) (false)) (cond (Nat.beq mi 201) (false) (false))))) (cond (Nat.blt mi 206) (cond (Nat.blt mi 204) (cond (Nat.blt mi 203) (cond (Nat.beq mi 202) (false) (false)) (cond (Nat.beq mi 203) (false) (false))) (cond (Nat.blt mi 205) (cond (Nat.beq mi 204) (true) (false)) (cond (Nat.beq mi 205) (false) (false)))) (cond (Nat.blt mi 208) (cond (Nat.blt mi 207) (cond (Nat.beq mi 206) (false) (false)) (cond (Nat.beq mi 207) (false) (false))) (cond (Nat.blt mi 209) (cond (Nat.beq mi 208) (false) (false)) (cond (Nat.beq mi 209) (false) (false))))))) (cond (Nat.blt mi 225) (cond (Nat.blt mi 217) (cond (Nat.blt mi 213) (cond (Nat.blt mi 211) (cond (Nat.beq mi 210) (false) (false)) (cond (Nat.blt mi 212) (cond (Nat.beq mi 211) (false) (false)) (cond (Nat.beq mi 212) (false) (false)))) (cond (Nat.blt mi 215) (cond (Nat.blt mi 214) (cond (Nat.beq mi 213) (false) (false)) (cond (Nat.beq mi 214) (false) (false))) (cond (Nat.blt mi 216) (cond (Nat.beq mi 215) (false) (false)) (cond (Nat.beq mi 216) (false) (false))))) (cond (Nat.blt mi 221) (cond (Nat.blt mi 219) (cond (Nat.blt mi 218) (cond (Nat.beq mi 217) (false) (false)) (cond (Nat.beq mi 218) (false) (false))) (cond (Nat.blt mi 220) (cond (Nat.beq mi 219) (false) (false)) (cond (Nat.beq mi 220) (false) (false)))) (cond (Nat.blt mi 223) (cond (Nat.blt mi 222) (cond (Nat.beq mi 221) (false) (false)) (cond (Nat.beq mi 222) (false) (false))) (cond (Nat.blt mi 224) (cond (Nat.beq mi 223) (false) (false)) (cond (Nat.beq mi 224) (false) (false)))))) (cond (Nat.blt mi 232) (cond (Nat.blt mi 228) (cond (Nat.blt mi 226) (cond (Nat.beq mi 225) (false) (false)) (cond (Nat.blt mi 227) (cond (Nat.beq mi 226) (false) (false)) (cond (Nat.beq mi 227) (false) (false)))) (cond (Nat.blt mi 230) (cond (Nat.blt mi 229) (cond (Nat.beq mi 228) (false) (false)) (cond (Nat.beq mi 229) (false) (false))) (cond (Nat.blt mi 231) (cond (Nat.beq mi 230) (true) (false)) (cond (Nat.beq mi 231) (false) (false))))) (cond (Nat.blt mi 236) (cond (Nat.blt mi 234) (cond (Nat.blt mi 233) (cond (Nat.beq mi 232) (false) (false)) (cond (Nat.beq mi 233) (false) (false))) (cond (Nat.blt mi 235) (cond (Nat.beq mi 234) (false) (false)) (cond (Nat.beq mi 235) (false) (false)))) (cond (Nat.blt mi 238) (cond (Nat.blt mi 237) (cond (Nat.beq mi 236) (false) (false)) (cond (Nat.beq mi 237) (false) (false))) (cond (Nat.blt mi 239) (cond (Nat.beq mi 238) (false) (false)) (cond (Nat.beq mi 239) (true) (false)))))))))
def zm_retZ (mi : Nat) (v : Int32) : Bool := cond (zm_isB mi) (cond (decide (v = 0)) true (decide (v = 1))) true
def zm_ret_ref : Nat → Nat := fun c => cond (Nat.beq c 133) (14) (0)
def zc_3 : Nat → Option (List Bool) := fun pc => cond (Nat.beq pc 2) (some [true, true]) (none)
def zc_4 : Nat → Option (List Bool) := fun pc => cond (Nat.beq pc 5) (some [true, true, true, false]) (none)
def zc_6 : Nat → Option (List Bool) := fun pc => cond (Nat.beq pc 2) (some [true, true, true, true]) (none)
def zc_8 : Nat → Option (List Bool) := fun pc => cond (Nat.beq pc 16) (some [true, true, true, true, false]) (none)
def zc_9 : Nat → Option (List Bool) := fun pc => cond (Nat.beq pc 4) (some [true, true, true, true]) (none)
def zc_10 : Nat → Option (List Bool) := fun pc => cond (Nat.beq pc 2) (some [true, true, true]) (none)
def zc_12 : Nat → Option (List Bool) := fun pc => cond (Nat.beq pc 2) (some [true, true]) (none)
def zc_13 : Nat → Option (List Bool) := fun pc => cond (Nat.beq pc 2) (some [true, true]) (none)
def zc_14 : Nat → Option (List Bool) := fun pc => cond (Nat.beq pc 12) (some [true, true, true, true, false]) (none)
def zc_15 : Nat → Option (List Bool) := fun pc => cond (Nat.beq pc 4) (some [true, true, true, true]) (none)
def zc_16 : Nat → Option (List Bool) := fun pc => cond (Nat.blt pc 47) (cond (Nat.beq pc 7) (some [true, true, false, false, false]) (none)) (cond (Nat.blt pc 91) (cond (Nat.beq pc 47) (some [true, true, true, false, false]) (none)) (cond (Nat.beq pc 91) (some [true, false, false, true, true]) (none)))
def zc_24 : Nat → Option (List Bool) := fun pc => cond (Nat.beq pc 2) (some [true, true]) (none)
def zc_25 : Nat → Option (List Bool) := fun pc => cond (Nat.beq pc 4) (some [true, true]) (none)
def zc_26 : Nat → Option (List Bool) := fun pc => cond (Nat.beq pc 4) (some [true, true, true]) (none)
def zc_28 : Nat → Option (List Bool) := fun pc => cond (Nat.beq pc 5) (some [true, false, true, true, true, false]) (none)
def zc_29 : Nat → Option (List Bool) := fun pc => cond (Nat.beq pc 5) (some [true, false, true, true, true, false]) (none)
def zc_30 : Nat → Option (List Bool) := fun pc => cond (Nat.beq pc 9) (some [true, true, false, true, true, true, true, false]) (none)
def zc_33 : Nat → Option (List Bool) := fun pc => cond (Nat.beq pc 16) (some [true, true, true]) (none)
def zc_34 : Nat → Option (List Bool) := fun pc => cond (Nat.beq pc 10) (some [true, true, true, true, true, false, false]) (none)
def zc_41 : Nat → Option (List Bool) := fun pc => cond (Nat.beq pc 2) (some [true, true, true]) (none)
def zc_42 : Nat → Option (List Bool) := fun pc => cond (Nat.beq pc 2) (some [true, true, true]) (none)
def zc_51 : Nat → Option (List Bool) := fun pc => cond (Nat.beq pc 12) (some [true, true]) (none)
def zc_53 : Nat → Option (List Bool) := fun pc => cond (Nat.beq pc 39) (some [true, true, true, true, true, false]) (none)
def zc_55 : Nat → Option (List Bool) := fun pc => cond (Nat.beq pc 4) (some [true, true, true]) (none)
def zc_74 : Nat → Option (List Bool) := fun pc => cond (Nat.beq pc 9) (some [false, false, true, true, true]) (none)
def zc_79 : Nat → Option (List Bool) := fun pc => cond (Nat.beq pc 4) (some [true, false, true, true]) (none)
def zc_83 : Nat → Option (List Bool) := fun pc => cond (Nat.beq pc 53) (some [true, false, true, true, true, true]) (none)
def zc_91 : Nat → Option (List Bool) := fun pc => cond (Nat.beq pc 32) (some [true, true, true, true, true, true, false]) (none)
def zc_93 : Nat → Option (List Bool) := fun pc => cond (Nat.beq pc 34) (some [false, false, true, true, true, true, true, false]) (none)
def zc_94 : Nat → Option (List Bool) := fun pc => cond (Nat.beq pc 38) (some [false, false, true, true, true, true, true, false]) (none)
def zc_96 : Nat → Option (List Bool) := fun pc => cond (Nat.beq pc 18) (some [false, false, true, true]) (none)
def zc_97 : Nat → Option (List Bool) := fun pc => cond (Nat.beq pc 28) (some [false, false, true, true, true]) (none)
def zc_98 : Nat → Option (List Bool) := fun pc => cond (Nat.beq pc 30) (some [false, false, true, true, true, true]) (none)
def zc_105 : Nat → Option (List Bool) := fun pc => cond (Nat.beq pc 45) (some [true, true, true, true, false, true, true]) (none)
def zc_106 : Nat → Option (List Bool) := fun pc => cond (Nat.beq pc 47) (some [true, true, false, true, false, true, true]) (none)
def zc_107 : Nat → Option (List Bool) := fun pc => cond (Nat.beq pc 45) (some [true, true, false, true, false, true, true]) (none)
def zc_108 : Nat → Option (List Bool) := fun pc => cond (Nat.beq pc 65) (some [false, false, true, false, true, true, true, true, true, false]) (none)
def zc_136 : Nat → Option (List Bool) := fun pc => cond (Nat.blt pc 57) (cond (Nat.beq pc 22) (some [true, false, true, true, false]) (none)) (cond (Nat.beq pc 57) (some [true, false, true, true, true]) (none))
def zc_152 : Nat → Option (List Bool) := fun pc => cond (Nat.beq pc 50) (some [true, true, true, true, true, true, false, false, false]) (none)
def zc_158 : Nat → Option (List Bool) := fun pc => cond (Nat.beq pc 55) (some [true, true, true, true, true, true]) (none)
def zc_168 : Nat → Option (List Bool) := fun pc => cond (Nat.beq pc 11) (some [true, true, true]) (none)
def zc_169 : Nat → Option (List Bool) := fun pc => cond (Nat.beq pc 9) (some [true, false]) (none)
def zc_170 : Nat → Option (List Bool) := fun pc => cond (Nat.beq pc 9) (some [true, false]) (none)
def zc_172 : Nat → Option (List Bool) := fun pc => cond (Nat.beq pc 9) (some [true]) (none)
def zc_173 : Nat → Option (List Bool) := fun pc => cond (Nat.beq pc 9) (some [true]) (none)
def zc_175 : Nat → Option (List Bool) := fun pc => cond (Nat.blt pc 99) (cond (Nat.beq pc 25) (some [true, true, false, false]) (none)) (cond (Nat.blt pc 151) (cond (Nat.beq pc 99) (some [true, false, false, true]) (none)) (cond (Nat.beq pc 151) (some [true, false, false, true]) (none)))
def zc_177 : Nat → Option (List Bool) := fun pc => cond (Nat.beq pc 6) (some [true, false, true, true, true, true, true, true, false]) (none)
def zc_178 : Nat → Option (List Bool) := fun pc => cond (Nat.beq pc 52) (some [true, true, true, true, true]) (none)
def zc_183 : Nat → Option (List Bool) := fun pc => cond (Nat.beq pc 14) (some [true, true, true, true, true, true, true, true]) (none)
def zc_185 : Nat → Option (List Bool) := fun pc => cond (Nat.beq pc 28) (some [true, true, true, true, true, true, false, false]) (none)
def zc_187 : Nat → Option (List Bool) := fun pc => cond (Nat.beq pc 8) (some [true, true, true, false, true, true, false]) (none)
def zc_189 : Nat → Option (List Bool) := fun pc => cond (Nat.beq pc 27) (some [true, true, true, true, true, true, false]) (none)
def zc_190 : Nat → Option (List Bool) := fun pc => cond (Nat.beq pc 27) (some [true, true, true, true, true, true, false]) (none)
def zc_193 : Nat → Option (List Bool) := fun pc => cond (Nat.beq pc 12) (some [true, true, true]) (none)
def zc_194 : Nat → Option (List Bool) := fun pc => cond (Nat.beq pc 38) (some [true, true, true, true, true, true]) (none)
def zc_195 : Nat → Option (List Bool) := fun pc => cond (Nat.beq pc 37) (some [true, true, true, true, true, true, true]) (none)
def zc_200 : Nat → Option (List Bool) := fun pc => cond (Nat.blt pc 45) (cond (Nat.beq pc 7) (some [true, true, true, false, false]) (none)) (cond (Nat.beq pc 45) (some [true, true, true, true, true]) (none))
def zc_201 : Nat → Option (List Bool) := fun pc => cond (Nat.blt pc 25) (cond (Nat.beq pc 2) (some [true, true, true, true, false, false, false]) (none)) (cond (Nat.blt pc 40) (cond (Nat.beq pc 25) (some [true, true, true, true, true, false, false]) (none)) (cond (Nat.beq pc 40) (some [true, true, true, true, true, true, true]) (none)))
def zc_203 : Nat → Option (List Bool) := fun pc => cond (Nat.blt pc 129) (cond (Nat.blt pc 121) (cond (Nat.beq pc 74) (some [true, false, true, true, false, true, false, false, false]) (none)) (cond (Nat.beq pc 121) (some [true, false, true, true, false, true, false, true, false]) (none))) (cond (Nat.blt pc 193) (cond (Nat.beq pc 129) (some [true, false, true, true, false, true, false, false, true]) (none)) (cond (Nat.beq pc 193) (some [true, false, true, true, false, true, false, false, true]) (none)))
def zc_204 : Nat → Option (List Bool) := fun pc => cond (Nat.blt pc 47) (cond (Nat.beq pc 7) (some [true, true, false, false, false]) (none)) (cond (Nat.blt pc 86) (cond (Nat.beq pc 47) (some [true, true, true, false, false]) (none)) (cond (Nat.beq pc 86) (some [true, false, false, true, true]) (none)))
def zc_206 : Nat → Option (List Bool) := fun pc => cond (Nat.beq pc 74) (some [true, false, false, true, false, true, true]) (none)
def zc_208 : Nat → Option (List Bool) := fun pc => cond (Nat.beq pc 10) (some [true, true, true, true, false, true, true, true, true, false]) (none)
def zc_210 : Nat → Option (List Bool) := fun pc => cond (Nat.beq pc 46) (some [true, true, true, true, false, true, true]) (none)
def zc_211 : Nat → Option (List Bool) := fun pc => cond (Nat.beq pc 43) (some [true, true, true, true, false, true]) (none)
def zc_212 : Nat → Option (List Bool) := fun pc => cond (Nat.beq pc 63) (some [true, true, true, true, false, true, true, true, true]) (none)
def zc_213 : Nat → Option (List Bool) := fun pc => cond (Nat.blt pc 79) (cond (Nat.beq pc 57) (some [true, true, true, false, true, true, true, true, true, false, false, false, false]) (none)) (cond (Nat.beq pc 79) (some [true, true, true, false, true, true, true, true, true, true, true, true, false]) (none))
def zc_217 : Nat → Option (List Bool) := fun pc => cond (Nat.blt pc 53) (cond (Nat.beq pc 15) (some [true, true]) (none)) (cond (Nat.beq pc 53) (some [true, true]) (none))
def zc_218 : Nat → Option (List Bool) := fun pc => cond (Nat.blt pc 74) (cond (Nat.beq pc 12) (some [true, true]) (none)) (cond (Nat.beq pc 74) (some [true, true]) (none))
def zc_229 : Nat → Option (List Bool) := fun pc => cond (Nat.beq pc 48) (some [true, true, false, false, true]) (none)
def zc_234 : Nat → Option (List Bool) := fun pc => cond (Nat.blt pc 188) (cond (Nat.beq pc 142) (some [true, true, true, true, true, true, true]) (none)) (cond (Nat.beq pc 188) (some [true, true, true, true, true, true, true]) (none))
def zc_235 : Nat → Option (List Bool) := fun pc => cond (Nat.beq pc 61) (some [false, false, true, true, true]) (none)
def zc_237 : Nat → Option (List Bool) := fun pc => cond (Nat.beq pc 6) (some [true, true, false, true, true]) (none)
def zc_238 : Nat → Option (List Bool) := fun pc => cond (Nat.beq pc 5) (some [true, true, true, true]) (none)
def zc_239 : Nat → Option (List Bool) := fun pc => cond (Nat.blt pc 990) (cond (Nat.blt pc 554) (cond (Nat.blt pc 376) (cond (Nat.blt pc 257) (cond (Nat.blt pc 224) (cond (Nat.beq pc 18) (some [true, true, true, true]) (none)) (cond (Nat.beq pc 224) (some [true, true, true, true]) (none))) (cond (Nat.blt pc 300) (cond (Nat.beq pc 257) (some [true, true, true, true]) (none)) (cond (Nat.blt pc 333) (cond (Nat.beq pc 300) (some [true, true, true, true]) (none)) (cond (Nat.beq pc 333) (some [true, true, true, true]) (none))))) (cond (Nat.blt pc 445) (cond (Nat.blt pc 409) (cond (Nat.beq pc 376) (some [true, true, true, true]) (none)) (cond (Nat.blt pc 432) (cond (Nat.beq pc 409) (some [true, true, true, true]) (none)) (cond (Nat.beq pc 432) (some [true, true, true, true]) (none)))) (cond (Nat.blt pc 488) (cond (Nat.beq pc 445) (some [true, true, true, true]) (none)) (cond (Nat.blt pc 521) (cond (Nat.beq pc 488) (some [true, true, true, true]) (none)) (cond (Nat.beq pc 521) (some [true, true, true, true]) (none)))))) (cond (Nat.blt pc 752) (cond (Nat.blt pc 663) (cond (Nat.blt pc 597) (cond (Nat.beq pc 554) (some [true, true, true, true]) (none)) (cond (Nat.blt pc 630) (cond (Nat.beq pc 597) (some [true, true, true, true]) (none)) (cond (Nat.beq pc 630) (some [true, true, true, true]) (none)))) (cond (Nat.blt pc 696) (cond (Nat.beq pc 663) (some [true, true, true, true]) (none)) (cond (Nat.blt pc 719) (cond (Nat.beq pc 696) (some [true, true, true, true]) (none)) (cond (Nat.beq pc 719) (some [true, true, true, true]) (none))))) (cond (Nat.blt pc 861) (cond (Nat.blt pc 785) (cond (Nat.beq pc 752) (some [true, true, true, true]) (none)) (cond (Nat.blt pc 818) (cond (Nat.beq pc 785) (some [true, true, true, true]) (none)) (cond (Nat.beq pc 818) (some [true, true, true, true]) (none)))) (cond (Nat.blt pc 904) (cond (Nat.beq pc 861) (some [true, true, true, true]) (none)) (cond (Nat.blt pc 947) (cond (Nat.beq pc 904) (some [true, true, true, true]) (none)) (cond (Nat.beq pc 947) (some [true, true, true, true]) (none))))))) (cond (Nat.blt pc 1333) (cond (Nat.blt pc 1215) (cond (Nat.blt pc 1076) (cond (Nat.blt pc 1033) (cond (Nat.beq pc 990) (some [true, true, true, true]) (none)) (cond (Nat.beq pc 1033) (some [true, true, true, true]) (none))) (cond (Nat.blt pc 1119) (cond (Nat.beq pc 1076) (some [true, true, true, true]) (none)) (cond (Nat.blt pc 1162) (cond (Nat.beq pc 1119) (some [true, true, true, true]) (none)) (cond (Nat.beq pc 1162) (some [true, true, true, true]) (none))))) (cond (Nat.blt pc 1294) (cond (Nat.blt pc 1248) (cond (Nat.beq pc 1215) (some [true, true, true, true]) (none)) (cond (Nat.blt pc 1271) (cond (Nat.beq pc 1248) (some [true, true, true, true]) (none)) (cond (Nat.beq pc 1271) (some [true, true, true, true]) (none)))) (cond (Nat.blt pc 1307) (cond (Nat.beq pc 1294) (some [true, true, true, true]) (none)) (cond (Nat.blt pc 1320) (cond (Nat.beq pc 1307) (some [true, true, true, true]) (none)) (cond (Nat.beq pc 1320) (some [true, true, true, true]) (none)))))) (cond (Nat.blt pc 1511) (cond (Nat.blt pc 1412) (cond (Nat.blt pc 1346) (cond (Nat.beq pc 1333) (some [true, true, true, true]) (none)) (cond (Nat.blt pc 1369) (cond (Nat.beq pc 1346) (some [true, true, true, true]) (none)) (cond (Nat.beq pc 1369) (some [true, true, true, true]) (none)))) (cond (Nat.blt pc 1435) (cond (Nat.beq pc 1412) (some [true, true, true, true]) (none)) (cond (Nat.blt pc 1468) (cond (Nat.beq pc 1435) (some [true, true, true, true]) (none)) (cond (Nat.beq pc 1468) (some [true, true, true, true]) (none))))) (cond (Nat.blt pc 1681) (cond (Nat.blt pc 1584) (cond (Nat.beq pc 1511) (some [true, true, true, true]) (none)) (cond (Nat.blt pc 1618) (cond (Nat.beq pc 1584) (some [true, true, true, true]) (none)) (cond (Nat.beq pc 1618) (some [true, true, true, true]) (none)))) (cond (Nat.blt pc 1714) (cond (Nat.beq pc 1681) (some [true, true, true, true]) (none)) (cond (Nat.blt pc 1737) (cond (Nat.beq pc 1714) (some [true, true, true, true]) (none)) (cond (Nat.beq pc 1737) (some [true, true, true, true]) (none)))))))
def zm_cut : Nat → Nat → Option (List Bool) := fun mi => cond (Nat.blt mi 136) (cond (Nat.blt mi 34) (cond (Nat.blt mi 15) (cond (Nat.blt mi 9) (cond (Nat.blt mi 6) (cond (Nat.blt mi 4) (cond (Nat.beq mi 3) (zc_3) (fun _ => none)) (cond (Nat.beq mi 4) (zc_4) (fun _ => none))) (cond (Nat.blt mi 8) (cond (Nat.beq mi 6) (zc_6) (fun _ => none)) (cond (Nat.beq mi 8) (zc_8) (fun _ => none)))) (cond (Nat.blt mi 12) (cond (Nat.blt mi 10) (cond (Nat.beq mi 9) (zc_9) (fun _ => none)) (cond (Nat.beq mi 10) (zc_10) (fun _ => none))) (cond (Nat.blt mi 13) (cond (Nat.beq mi 12) (zc_12) (fun _ => none)) (cond (Nat.blt mi 14) (cond (Nat.beq mi 13) (zc_13) (fun _ => none)) (cond (Nat.beq mi 14) (zc_14) (fun _ => none)))))) (cond (Nat.blt mi 26) (cond (Nat.blt mi 24) (cond (Nat.blt mi 16) (cond (Nat.beq mi 15) (zc_15) (fun _ => none)) (cond (Nat.beq mi 16) (zc_16) (fun _ => none))) (cond (Nat.blt mi 25) (cond (Nat.beq mi 24) (zc_24) (fun _ => none)) (cond (Nat.beq mi 25) (zc_25) (fun _ => none)))) (cond (Nat.blt mi 29) (cond (Nat.blt mi 28) (cond (Nat.beq mi 26) (zc_26) (fun _ => none)) (cond (Nat.beq mi 28) (zc_28) (fun _ => none))) (cond (Nat.blt mi 30) (cond (Nat.beq mi 29) (zc_29) (fun _ => none)) (cond (Nat.blt mi 33) (cond (Nat.beq mi 30) (zc_30) (fun _ => none)) (cond (Nat.beq mi 33) (zc_33) (fun _ => none))))))) (cond (Nat.blt mi 91) (cond (Nat.blt mi 53) (cond (Nat.blt mi 42) (cond (Nat.blt mi 41) (cond (Nat.beq mi 34) (zc_34) (fun _ => none)) (cond (Nat.beq mi 41) (zc_41) (fun _ => none))) (cond (Nat.blt mi 51) (cond (Nat.beq mi 42) (zc_42) (fun _ => none)) (cond (Nat.beq mi 51) (zc_51) (fun _ => none)))) (cond (Nat.blt mi 74) (cond (Nat.blt mi 55) (cond (Nat.beq mi 53) (zc_53) (fun _ => none)) (cond (Nat.beq mi 55) (zc_55) (fun _ => none))) (cond (Nat.blt mi 79) (cond (Nat.beq mi 74) (zc_74) (fun _ => none)) (cond (Nat.blt mi 83) (cond (Nat.beq mi 79) (zc_79) (fun _ => none)) (cond (Nat.beq mi 83) (zc_83) (fun _ => none)))))) (cond (Nat.blt mi 98) (cond (Nat.blt mi 94) (cond (Nat.blt mi 93) (cond (Nat.beq mi 91) (zc_91) (fun _ => none)) (cond (Nat.beq mi 93) (zc_93) (fun _ => none))) (cond (Nat.blt mi 96) (cond (Nat.beq mi 94) (zc_94) (fun _ => none)) (cond (Nat.blt mi 97) (cond (Nat.beq mi 96) (zc_96) (fun _ => none)) (cond (Nat.beq mi 97) (zc_97) (fun _ => none))))) (cond (Nat.blt mi 106) (cond (Nat.blt mi 105) (cond (Nat.beq mi 98) (zc_98) (fun _ => none)) (cond (Nat.beq mi 105) (zc_105) (fun _ => none))) (cond (Nat.blt mi 107) (cond (Nat.beq mi 106) (zc_106) (fun _ => none)) (cond (Nat.blt mi 108) (cond (Nat.beq mi 107) (zc_107) (fun _ => none)) (cond (Nat.beq mi 108) (zc_108) (fun _ => none)))))))) (cond (Nat.blt mi 195) (cond (Nat.blt mi 177) (cond (Nat.blt mi 169) (cond (Nat.blt mi 158) (cond (Nat.blt mi 152) (cond (Nat.beq mi 136) (zc_136) (fun _ => none)) (cond (Nat.beq mi 152) (zc_152) (fun _ => none))) (cond (Nat.blt mi 168) (cond (Nat.beq mi 158) (zc_158) (fun _ => none)) (cond (Nat.beq mi 168) (zc_168) (fun _ => none)))) (cond (Nat.blt mi 172) (cond (Nat.blt mi 170) (cond (Nat.beq mi 169) (zc_169) (fun _ => none)) (cond (Nat.beq mi 170) (zc_170) (fun _ => none))) (cond (Nat.blt mi 173) (cond (Nat.beq mi 172) (zc_172) (fun _ => none)) (cond (Nat.blt mi 175) (cond (Nat.beq mi 173) (zc_173) (fun _ => none)) (cond (Nat.beq mi 175) (zc_175) (fun _ => none)))))) (cond (Nat.blt mi 187) (cond (Nat.blt mi 183) (cond (Nat.blt mi 178) (cond (Nat.beq mi 177) (zc_177) (fun _ => none)) (cond (Nat.beq mi 178) (zc_178) (fun _ => none))) (cond (Nat.blt mi 185) (cond (Nat.beq mi 183) (zc_183) (fun _ => none)) (cond (Nat.beq mi 185) (zc_185) (fun _ => none)))) (cond (Nat.blt mi 190) (cond (Nat.blt mi 189) (cond (Nat.beq mi 187) (zc_187) (fun _ => none)) (cond (Nat.beq mi 189) (zc_189) (fun _ => none))) (cond (Nat.blt mi 193) (cond (Nat.beq mi 190) (zc_190) (fun _ => none)) (cond (Nat.blt mi 194) (cond (Nat.beq mi 193) (zc_193) (fun _ => none)) (cond (Nat.beq mi 194) (zc_194) (fun _ => none))))))) (cond (Nat.blt mi 212) (cond (Nat.blt mi 204) (cond (Nat.blt mi 201) (cond (Nat.blt mi 200) (cond (Nat.beq mi 195) (zc_195) (fun _ => none)) (cond (Nat.beq mi 200) (zc_200) (fun _ => none))) (cond (Nat.blt mi 203) (cond (Nat.beq mi 201) (zc_201) (fun _ => none)) (cond (Nat.beq mi 203) (zc_203) (fun _ => none)))) (cond (Nat.blt mi 208) (cond (Nat.blt mi 206) (cond (Nat.beq mi 204) (zc_204) (fun _ => none)) (cond (Nat.beq mi 206) (zc_206) (fun _ => none))) (cond (Nat.blt mi 210) (cond (Nat.beq mi 208) (zc_208) (fun _ => none)) (cond (Nat.blt mi 211) (cond (Nat.beq mi 210) (zc_210) (fun _ => none)) (cond (Nat.beq mi 211) (zc_211) (fun _ => none)))))) (cond (Nat.blt mi 234) (cond (Nat.blt mi 217) (cond (Nat.blt mi 213) (cond (Nat.beq mi 212) (zc_212) (fun _ => none)) (cond (Nat.beq mi 213) (zc_213) (fun _ => none))) (cond (Nat.blt mi 218) (cond (Nat.beq mi 217) (zc_217) (fun _ => none)) (cond (Nat.blt mi 229) (cond (Nat.beq mi 218) (zc_218) (fun _ => none)) (cond (Nat.beq mi 229) (zc_229) (fun _ => none))))) (cond (Nat.blt mi 237) (cond (Nat.blt mi 235) (cond (Nat.beq mi 234) (zc_234) (fun _ => none)) (cond (Nat.beq mi 235) (zc_235) (fun _ => none))) (cond (Nat.blt mi 238) (cond (Nat.beq mi 237) (zc_237) (fun _ => none)) (cond (Nat.blt mi 239) (cond (Nat.beq mi 238) (zc_238) (fun _ => none)) (cond (Nat.beq mi 239) (zc_239) (fun _ => none))))))))
/-! THE ABSTRACT MACHINE: memory is two tables over fixed cells (ints, longs); references are cells' numbers; the cells' kinds and references never change -/
abbrev zm_H : Type := (Nat → Nat → Int32) × (Nat → Nat → Int64)
abbrev zm_L : Type := List (Option Value)
abbrev zm_N : Type := Nat × zm_L × List Value × zm_H
abbrev zm_R : Type := Option (Option Value × zm_H)
abbrev zm_C : Type := Bool × Nat × List Value × Nat × List Value × Nat × Nat
abbrev zm_A : Type := (Bool × Option zm_N × Option zm_N) ⊕ ((Int32 × List (Int32 × Nat) × Nat × List Value) ⊕ (zm_C ⊕ (Bool × Option Value)))
def zm_ui (h : zm_H) (c k : Nat) (v : Int32) : zm_H := (fun a b => if a = c ∧ b = k then v else h.1 a b, h.2)
def zm_ul (h : zm_H) (c k : Nat) (v : Int64) : zm_H := (h.1, fun a b => if a = c ∧ b = k then v else h.2 a b)
def zm_cpy (h : zm_H) (a0 a1 sp dp n : Nat) : zm_H := (h.1, fun a b => if a = a1 then va_cpy (h.2 a0) (h.2 a1) sp dp n b else h.2 a b)
/-- an object of class ci; an int row that may be read, written; a long row; a row of references; what has a length -/
def zm_isO (o ci : Nat) : Bool := Nat.beq (zm_kd o).1 0 && Nat.beq (zm_kd o).2 ci
def zm_lenOf (h : zm_H) (a : Nat) : Nat := cond (Nat.beq (zm_kd a).1 5) (h.1 2001 0).toNatClampNeg (zm_kd a).2
def zm_at (n : Nat) (j : Int32) : Bool := !(decide (j < 0)) && Nat.blt j.toNatClampNeg n
def zm_inR (h : zm_H) (a : Nat) (j : Int32) : Bool := (Nat.beq (zm_kd a).1 1 || Nat.beq (zm_kd a).1 4 || Nat.beq (zm_kd a).1 5) && zm_at (zm_lenOf h a) j
def zm_inW (a : Nat) (j : Int32) : Bool := Nat.beq (zm_kd a).1 1 && zm_at (zm_kd a).2 j
def zm_inJ (a : Nat) (j : Int32) : Bool := Nat.beq (zm_kd a).1 2 && zm_at (zm_kd a).2 j
def zm_inQ (a : Nat) (j : Int32) : Bool := Nat.beq (zm_kd a).1 3 && zm_at (zm_kd a).2 j
def zm_isA (a : Nat) : Bool := Nat.beq (zm_kd a).1 1 || Nat.beq (zm_kd a).1 2 || Nat.beq (zm_kd a).1 4 || Nat.beq (zm_kd a).1 5
def zm_isZ (v : Int32) : Bool := decide (v = 0) || decide (v = 1)
def zm_cpG (a0 a1 : Nat) (sp dp n : Int32) : Bool := Nat.beq (zm_kd a0).1 2 && Nat.beq (zm_kd a1).1 2 && !(decide (sp < 0)) && !(decide (dp < 0)) && !(decide (n < 0)) && Nat.ble (sp.toNatClampNeg + n.toNatClampNeg) (zm_kd a0).2 && Nat.ble (dp.toNatClampNeg + n.toNatClampNeg) (zm_kd a1).2
/-- how deep the stack is, in words -/
def zm_cat : List Value → Nat
  | [] => 0
  | v :: r => v.category + zm_cat r
def zm_max (x y : Int32) : Int32 := if x < y then y else x
def zm_min (x y : Int32) : Int32 := if y < x then y else x
def zm_abs (x : Int32) : Int32 := if 0 ≤ x then x else 0 - x
-- the instructions that touch the stack alone: a guard, and the new stack
def zm_i1 (f : Int32 → Int32) (S : List Value) : Option (Bool × List Value) := match S with
  | .int x :: r => some (true, .int (f x) :: r)
  | _ => none
def zm_i2 (f : Int32 → Int32 → Int32) (S : List Value) : Option (Bool × List Value) := match S with
  | .int y :: .int x :: r => some (true, .int (f x y) :: r)
  | _ => none
def zm_l2 (f : Int64 → Int64 → Int64) (S : List Value) : Option (Bool × List Value) := match S with
  | .long y :: .long x :: r => some (true, .long (f x y) :: r)
  | _ => none
def zm_dv (f : Int32 → Int32 → Int32) (S : List Value) : Option (Bool × List Value) := match S with
  | .int y :: .int x :: r => some (!(decide (y = 0)), .int (f x y) :: r)
  | _ => none
def zm_sop (i : Instr) (v : Value) (S : List Value) : Option (Bool × List Value) := match i with
  | .iconst _ => some (true, v :: S)
  | .bipush _ => some (true, v :: S)
  | .sipush _ => some (true, v :: S)
  | .lconst _ => some (true, v :: S)
  | .ldc _ => some (true, v :: S)
  | .ldc_w _ => some (true, v :: S)
  | .ldc2_w _ => some (true, v :: S)
  | .iadd => zm_i2 (fun x y => x + y) S
  | .isub => zm_i2 (fun x y => x - y) S
  | .imul => zm_i2 (fun x y => x * y) S
  | .iand => zm_i2 (fun x y => x &&& y) S
  | .ior => zm_i2 (fun x y => x ||| y) S
  | .ixor => zm_i2 (fun x y => x ^^^ y) S
  | .ishl => zm_i2 (fun x y => x <<< (y &&& 31)) S
  | .iushr => zm_i2 (fun x y => (x.toUInt32 >>> (y.toUInt32 &&& Int32.toUInt32 31)).toInt32) S
  | .idiv => zm_dv (fun x y => x / y) S
  | .irem => zm_dv (fun x y => x - x / y * y) S
  | .ineg => zm_i1 (fun x => -x) S
  | .i2b => zm_i1 (fun x => x.toInt8.toInt32) S
  | .i2s => zm_i1 (fun x => x.toInt16.toInt32) S
  | .i2l => (match S with | .int x :: r => some (true, .long x.toInt64 :: r) | _ => none)
  | .l2i => (match S with | .long x :: r => some (true, .int x.toInt32 :: r) | _ => none)
  | .ladd => zm_l2 (fun x y => x + y) S
  | .lmul => zm_l2 (fun x y => x * y) S
  | .land => zm_l2 (fun x y => x &&& y) S
  | .lor => zm_l2 (fun x y => x ||| y) S
  | .lshl => (match S with | .int y :: .long x :: r => some (true, .long (x <<< (y.toInt64 &&& 63)) :: r) | _ => none)
  | .lcmp => (match S with | .long y :: .long x :: r => some (true, .int (lg_cmp x y) :: r) | _ => none)
  | .dup => (match S with | v :: r => cond (Nat.beq v.category 1) (some (true, v :: v :: r)) none | _ => none)
  | .pop => (match S with | v :: r => cond (Nat.beq v.category 1) (some (true, r)) none | _ => none)
  | .dup_x1 => (match S with | v :: w :: r => cond (Nat.beq v.category 1 && Nat.beq w.category 1) (some (true, v :: w :: v :: r)) none | _ => none)
  | .dup2 => (match S with | v :: w :: r => cond (Nat.beq v.category 1 && Nat.beq w.category 1) (some (true, v :: w :: v :: w :: r)) none | _ => none)
  | _ => none
-- locals
def zm_gl (L : zm_L) (i : Nat) : Option Value := match L[i]? with
  | some (some v) => some v
  | _ => none
/-- a store at i is told only where the local ahead of it is no long -/
def zm_okL (L : zm_L) (i : Nat) : Bool := match i with
  | 0 => true
  | j + 1 => (match zm_gl L j with | some v => Nat.beq v.category 1 | none => true)
def zm_cmp0 (c : ClassFile.Cond) (x : Int32) : Bool := match c with
  | .eq => decide (x = 0)
  | .ne => !(decide (x = 0))
  | .lt => decide (x < 0)
  | .ge => decide (0 ≤ x)
  | .gt => decide (0 < x)
  | .le => decide (x ≤ 0)
def zm_cmp (c : ClassFile.Cond) (x y : Int32) : Bool := match c with
  | .eq => decide (x = y)
  | .ne => !(decide (x = y))
  | .lt => decide (x < y)
  | .ge => decide (y ≤ x)
  | .gt => decide (y < x)
  | .le => decide (x ≤ y)
def zm_nx (g : Bool) (pc : Nat) (L : zm_L) (S : List Value) (h : zm_H) : Option zm_A := some (.inl (g, some (pc, L, S, h), none))
def zm_ldI (pc : Nat) (L : zm_L) (S : List Value) (h : zm_H) (i : Nat) : Option zm_A := match zm_gl L i with
  | some (.int x) => zm_nx true pc L (.int x :: S) h
  | _ => none
def zm_ldJ (pc : Nat) (L : zm_L) (S : List Value) (h : zm_H) (i : Nat) : Option zm_A := match zm_gl L i with
  | some (.long x) => zm_nx true pc L (.long x :: S) h
  | _ => none
def zm_ldR (pc : Nat) (L : zm_L) (S : List Value) (h : zm_H) (i : Nat) : Option zm_A := match zm_gl L i with
  | some (.ref x) => zm_nx true pc L (.ref x :: S) h
  | _ => none
def zm_stI (pc : Nat) (L : zm_L) (S : List Value) (h : zm_H) (i : Nat) : Option zm_A := match S with
  | .int x :: r => cond (zm_okL L i) (zm_nx true pc (L.set i (some (.int x))) r h) none
  | _ => none
def zm_stR (pc : Nat) (L : zm_L) (S : List Value) (h : zm_H) (i : Nat) : Option zm_A := match S with
  | .ref x :: r => cond (zm_okL L i) (zm_nx true pc (L.set i (some (.ref x))) r h) none
  | _ => none
def zm_stJ (pc : Nat) (L : zm_L) (S : List Value) (h : zm_H) (i : Nat) : Option zm_A := match S with
  | .long x :: r => cond (zm_okL L i) (zm_nx true pc ((L.set i (some (.long x))).set (i + 1) none) r h) none
  | _ => none
/-- the upper n of the stack, as arguments -/
def zm_argG (c np rk ci rf pc : Nat) (S : List Value) (isV : Bool) : Option zm_A :=
  cond (isV)
    (match (S.drop np) with
      | .ref o :: r => cond (Nat.ble (zm_cat r) 8 && Nat.beq (S.take np).length np) (some (.inr (.inr (.inl (zm_isO o ci, c, .ref o :: (S.take np).reverse, pc, r, rk, rf))))) none
      | _ => none)
    (cond (Nat.ble (zm_cat (S.drop np)) 8 && Nat.beq (S.take np).length np) (some (.inr (.inr (.inl (true, c, (S.take np).reverse, pc, S.drop np, rk, rf))))) none)
/-- max, min, abs -/
def zm_mth (q pc : Nat) (L : zm_L) (y : Int32) (r : List Value) (h : zm_H) : Option zm_A :=
  cond (Nat.beq q 2) (zm_nx (Nat.ble (zm_cat r) 8) pc L (.int (zm_abs y) :: r) h)
    (match r with
      | .int x :: r' => zm_nx (Nat.ble (zm_cat r') 8 && Nat.ble q 1) pc L (.int (cond (Nat.beq q 0) (zm_max x y) (zm_min x y)) :: r') h
      | _ => none)
/-- what one instruction does -/
def zm_act (mi pc : Nat) (L : zm_L) (S : List Value) (h : zm_H) (e : ZI) : Option zm_A :=
  match zm_sop e.1 e.2.2.2.1 S with
  | some (g, S') => zm_nx g (pc + e.2.1) L S' h
  | none => match e.1 with
    | .iload_n i => zm_ldI (pc + e.2.1) L S h i
    | .iload i => zm_ldI (pc + e.2.1) L S h i
    | .aload_n i => zm_ldR (pc + e.2.1) L S h i
    | .aload i => zm_ldR (pc + e.2.1) L S h i
    | .lload_n i => zm_ldJ (pc + e.2.1) L S h i
    | .lload i => zm_ldJ (pc + e.2.1) L S h i
    | .istore_n i => zm_stI (pc + e.2.1) L S h i
    | .istore i => zm_stI (pc + e.2.1) L S h i
    | .astore_n i => zm_stR (pc + e.2.1) L S h i
    | .astore i => zm_stR (pc + e.2.1) L S h i
    | .lstore i => zm_stJ (pc + e.2.1) L S h i
    | .iinc i _ => (match zm_gl L i, e.2.2.2.1 with
      | some (.int x), .int v => cond (zm_okL L i) (zm_nx true (pc + e.2.1) (L.set i (some (.int (x + v)))) S h) none
      | _, _ => none)
    | .goto _ => (match e.2.2.1 with
      | [t] => zm_nx true t L S h
      | _ => none)
    | .ifCond c _ => (match e.2.2.1, S with
      | [t], .int x :: r => some (.inl (zm_cmp0 c x, some (t, L, r, h), some (pc + e.2.1, L, r, h)))
      | _, _ => none)
    | .if_icmp c _ => (match e.2.2.1, S with
      | [t], .int y :: .int x :: r => some (.inl (zm_cmp c x y, some (t, L, r, h), some (pc + e.2.1, L, r, h)))
      | _, _ => none)
    | .tableswitch _ _ _ _ => (match e.2.2.1, S with
      | [t], .int x :: r => some (.inr (.inl (x, e.2.2.2.2, t, r)))
      | _, _ => none)
    | .lookupswitch _ _ => (match e.2.2.1, S with
      | [t], .int x :: r => some (.inr (.inl (x, e.2.2.2.2, t, r)))
      | _, _ => none)
    | .getfield _ => (match e.2.2.1, S with
      | [ci, k, t, _], .ref o :: r => zm_nx (zm_isO o ci) (pc + e.2.1) L ((cond (Nat.beq t 2) (.ref (zm_rt o k)) (.int (h.1 o k))) :: r) h
      | _, _ => none)
    | .putfield _ => (match e.2.2.1, S with
      | [ci, k, t, _], .int v :: .ref o :: r => zm_nx (cond (cond (Nat.beq t 0) true (zm_isZ v)) (zm_isO o ci) false) (pc + e.2.1) L r (zm_ui h o k v)
      | _, _ => none)
    | .getstatic _ => (match e.2.2.1 with
      | [z, _, _] => zm_nx true (pc + e.2.1) L (.ref (1000 + z) :: S) h
      | _ => none)
    | .iaload => (match S with
      | .int j :: .ref a :: r => zm_nx (zm_inR h a j) (pc + e.2.1) L (.int (h.1 a j.toNatClampNeg) :: r) h
      | _ => none)
    | .laload => (match S with
      | .int j :: .ref a :: r => zm_nx (zm_inJ a j) (pc + e.2.1) L (.long (h.2 a j.toNatClampNeg) :: r) h
      | _ => none)
    | .aaload => (match S with
      | .int j :: .ref a :: r => zm_nx (zm_inQ a j) (pc + e.2.1) L (.ref (zm_rt a j.toNatClampNeg) :: r) h
      | _ => none)
    | .iastore => (match S with
      | .int v :: .int j :: .ref a :: r => zm_nx (zm_inW a j) (pc + e.2.1) L r (zm_ui h a j.toNatClampNeg v)
      | _ => none)
    | .lastore => (match S with
      | .long v :: .int j :: .ref a :: r => zm_nx (zm_inJ a j) (pc + e.2.1) L r (zm_ul h a j.toNatClampNeg v)
      | _ => none)
    | .arraylength => (match S with
      | .ref a :: r => zm_nx (zm_isA a) (pc + e.2.1) L (.int (cond (Nat.beq (zm_kd a).1 5) (h.1 2001 0) (Int32.ofNat (zm_kd a).2)) :: r) h
      | _ => none)
    | .invokevirtual _ => (match e.2.2.1 with
      | [c, np, rk, ci, _, _, _, _] => zm_argG c np rk ci (zm_ret_ref c) (pc + e.2.1) S true
      | _ => none)
    | .invokestatic _ => (match e.2.2.1, S with
      | [_, _, _, _, _], .int n :: .int dp :: .ref a1 :: .int sp :: .ref a0 :: r => zm_nx (zm_cpG a0 a1 sp dp n && Nat.ble (zm_cat r) 8) (pc + e.2.1) L r (zm_cpy h a0 a1 sp.toNatClampNeg dp.toNatClampNeg n.toNatClampNeg)
      | [q, _, _, _, _, _, _], .int y :: r => zm_mth q (pc + e.2.1) L y r h
      | [c, np, rk, _, _, _], _ => zm_argG c np rk 0 (zm_ret_ref c) (pc + e.2.1) S false
      | _, _ => none)
    | .ireturn => (match S with
      | [.int v] => some (.inr (.inr (.inr (zm_retZ mi v, some (.int v)))))
      | _ => none)
    | .lreturn => (match S with
      | [.long v] => some (.inr (.inr (.inr (true, some (.long v)))))
      | _ => none)
    | .areturn => (match S with
      | [.ref v] => some (.inr (.inr (.inr (true, some (.ref v)))))
      | _ => none)
    | .return_ => (match S with
      | [] => some (.inr (.inr (.inr (true, none))))
      | _ => none)
    | _ => none
/-- behind a call -/
def zb_V (r : zm_R) (k : zm_H → zm_R) : zm_R := match r with
  | some (none, h) => k h
  | _ => none
def zb_I (r : zm_R) (k : Int32 → zm_H → zm_R) : zm_R := match r with
  | some (some (.int x), h) => k x h
  | _ => none
def zb_J (r : zm_R) (k : Int64 → zm_H → zm_R) : zm_R := match r with
  | some (some (.long x), h) => k x h
  | _ => none
def zb_Q (r : zm_R) (o : Nat) (k : zm_H → zm_R) : zm_R := match r with
  | some (some (.ref x), h) => cond (Nat.beq x o) (k h) none
  | _ => none
def zm_mask : List Bool → zm_L → zm_L
  | true :: m, x :: l => x :: zm_mask m l
  | false :: m, _ :: l => none :: zm_mask m l
  | _, _ => []
abbrev zm_K : Type := Nat → zm_L → List Value → zm_H → zm_R
/-- on to the next place: a cut, or the same block -/
def zm_go (K I : zm_K) (mi : Nat) (n : zm_N) : zm_R := match zm_cut mi n.1 with
  | some l => K n.1 (zm_mask l n.2.1) n.2.2.1 n.2.2.2
  | none => I n.1 n.2.1 n.2.2.1 n.2.2.2
def zm_sw (x : Int32) (l : List (Int32 × Nat)) (d : zm_R) (go : Nat → zm_R) : zm_R := match l with
  | [] => d
  | q :: r => cond (decide (x = q.1)) (go q.2) (zm_sw x r d go)
/-- what an action leads to -/
def zm_do (C : Nat → List Value → zm_H → zm_R) (G : zm_N → zm_R) (L : zm_L) (h : zm_H) (a : Option zm_A) : zm_R := match a with
  | none => none
  | some (.inl (g, n1, n2)) => cond g (match n1 with | some n => G n | none => none) (match n2 with | some n => G n | none => none)
  | some (.inr (.inl (x, l, d, S'))) => zm_sw x l (G (d, L, S', h)) (fun pc' => G (pc', L, S', h))
  | some (.inr (.inr (.inl (g, c, as, pc', S', rk, rf)))) => cond g (match rk with
      | 0 => zb_V (C c as h) (fun h' => G (pc', L, S', h'))
      | 1 => zb_I (C c as h) (fun x h' => G (pc', L, .int x :: S', h'))
      | 2 => zb_J (C c as h) (fun x h' => G (pc', L, .long x :: S', h'))
      | _ => zb_Q (C c as h) rf (fun h' => G (pc', L, .ref rf :: S', h'))) none
  | some (.inr (.inr (.inr (g, v)))) => cond g (some (v, h)) none
/-- a block: up to n instructions -/
def zm_int (C : Nat → List Value → zm_H → zm_R) (K : zm_K) (mi : Nat) : Nat → zm_K
  | 0 => fun _ _ _ _ => none
  | n + 1 => fun pc L S h => match zm_tab mi pc with
    | none => none
    | some e => zm_do C (zm_go K (zm_int C K mi n) mi) L h (zm_act mi pc L S h e)
def zm_args : List Value → zm_L
  | [] => []
  | v :: r => cond (Nat.beq v.category 2) (some v :: none :: zm_args r) (some v :: zm_args r)
def zm_pad (l : zm_L) (n : Nat) : zm_L := l ++ List.replicate (n - l.length) none
def zm_ent (c : Nat) (as : List Value) : zm_L := zm_pad (zm_args as) (zm_ml c)
/-- the arguments fit into the callee's locals -/
def zm_fit (c : Nat) (as : List Value) : Bool := Nat.ble (zm_args as).length (zm_ml c)
/-- with F cuts and calls at most, d calls deep at most -/
def zm_run : Nat → Nat → Nat → zm_K
  | 0 => fun _ _ _ _ _ _ => none
  | F + 1 => fun d mi => zm_int (fun c as h => match d with | 0 => none | d' + 1 => cond (zm_fit c as) (zm_run F d' c 0 (zm_ent c as) [] h) none) (zm_run F d mi) mi 400
/-- the answer, however many cuts it takes -/
noncomputable def zm_lim (d mi pc : Nat) (L : zm_L) (S : List Value) (h : zm_H) : zm_R :=
  @dite zm_R (∃ r, ∃ F, zm_run F d mi pc L S h = some r) (Classical.propDecidable _) (fun hx => some (Classical.choose hx)) (fun _ => none)
noncomputable def zm_call (d : Nat) (c : Nat) (as : List Value) (h : zm_H) : zm_R := match d with
  | 0 => none
  | d' + 1 => cond (zm_fit c as) (zm_lim d' c 0 (zm_ent c as) [] h) none
