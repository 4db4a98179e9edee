/-! the states of the refuting run, told as literals: the cells at every call of free -/
def rf_C_0 : List ce_SE := [.inl (15, [.inr (.inr (.inl (.inl 1))), .inr (.inr (.inl (.inl 13))), .inr (.inr (.inl (.inl 50))), .inr (.inr (.inl (.inl 112))), .inr (.inr (.inl (.inl 170))), .inr (.inr (.inl (.inl 174))), .inr (.inr (.inl (.inl 180)))]),
  .inl (13, [.inr (.inr (.inl (.inl 2))), .inr (.inr (.inl (.inl 3))), .inr (.inr (.inl (.inl 4))), .inl (.inl 0), .inl (.inl 0), .inl (.inl 0), .inl (.inl 0), .inl (.inl 0), .inl (.inl 0), .inl (.inl 0)]),
  .inr (1, [.inl (.inl 0), .inl (.inl 0), .inl (.inl 0), .inl (.inl 0), .inl (.inl 0), .inl (.inl 0), .inl (.inl 0), .inl (.inl 0), .inl (.inl 0), .inl (.inl 0), .inl (.inl 0), .inl (.inl 0), .inl (.inl 0), .inl (.inl 0), .inl (.inl 0), .inl (.inl 0), .inl (.inl 0), .inl (.inl 0), .inl (.inl 0), .inl (.inl 0), .inl (.inl 0), .inl (.inl 0), .inl (.inl 0), .inl (.inl 0), .inl (.inl 0), .inl (.inl 0), .inl (.inl 0), .inl (.inl 0), .inl (.inl 0), .inl (.inl 0)]),
  .inr (10, [.inr (.inr (.inl (.inl 5))), .inr (.inr (.inl (.inl 6))), .inr (.inr (.inl (.inl 7))), .inr (.inr (.inl (.inl 8))), .inr (.inr (.inl (.inl 9))), .inr (.inr (.inl (.inl 10))), .inr (.inr (.inl (.inl 11))), .inr (.inr (.inl (.inl 12)))]),
  .inl (6, [.inl (.inl 98), .inl (.inl 0), .inl (.inl 0), .inl (.inl 0), .inl (.inl 0), .inl (.inl 0), .inl (.inl 0), .inl (.inl 0), .inl (.inl 0)]),
  .inl (6, [.inl (.inl 98), .inl (.inl 0), .inl (.inl 0), .inl (.inl 0), .inl (.inl 0), .inl (.inl 0), .inl (.inl 0), .inl (.inl 0), .inl (.inl 0)]),
  .inl (6, [.inl (.inl 98), .inl (.inl 0), .inl (.inl 0), .inl (.inl 0), .inl (.inl 0), .inl (.inl 0), .inl (.inl 0), .inl (.inl 0), .inl (.inl 0)]),
  .inl (6, [.inl (.inl 98), .inl (.inl 0), .inl (.inl 0), .inl (.inl 0), .inl (.inl 0), .inl (.inl 0), .inl (.inl 0), .inl (.inl 0), .inl (.inl 0)]),
  .inl (6, [.inl (.inl 98), .inl (.inl 0), .inl (.inl 0), .inl (.inl 0), .inl (.inl 0), .inl (.inl 0), .inl (.inl 0), .inl (.inl 0), .inl (.inl 0)]),
  .inl (6, [.inl (.inl 98), .inl (.inl 0), .inl (.inl 0), .inl (.inl 0), .inl (.inl 0), .inl (.inl 0), .inl (.inl 0), .inl (.inl 0), .inl (.inl 0)]),
  .inl (6, [.inl (.inl 98), .inl (.inl 0), .inl (.inl 0), .inl (.inl 0), .inl (.inl 0), .inl (.inl 0), .inl (.inl 0), .inl (.inl 0), .inl (.inl 0)]),
  .inl (6, [.inl (.inl 98), .inl (.inl 0), .inl (.inl 0), .inl (.inl 0), .inl (.inl 0), .inl (.inl 0), .inl (.inl 0), .inl (.inl 0), .inl (.inl 0)]),
  .inl (6, [.inl (.inl 98), .inl (.inl 0), .inl (.inl 0), .inl (.inl 0), .inl (.inl 0), .inl (.inl 0), .inl (.inl 0), .inl (.inl 0), .inl (.inl 0)]),
  .inl (10, [.inr (.inr (.inl (.inl 14))), .inr (.inr (.inl (.inl 15))), .inr (.inr (.inl (.inl 16))), .inr (.inr (.inl (.inl 49))), .inr (.inr (.inl (.inl 17))), .inr (.inr (.inl (.inl 18))), .inl (.inl 1), .inl (.inl 0), .inl (.inl 0), .inl (.inl 0)]),
  .inr (7, [.inr (.inr (.inl (.inl 19))), .inr (.inr (.inl (.inl 20))), .inr (.inr (.inl (.inl 21))), .inr (.inr (.inl (.inl 22))), .inr (.inr (.inl (.inl 23))), .inr (.inr (.inl (.inl 24)))]),
  .inr (8, [.inr (.inr (.inl (.inl 25))), .inr (.inr (.inl (.inl 26))), .inr (.inr (.inl (.inl 27))), .inr (.inr (.inl (.inl 28))), .inr (.inr (.inl (.inl 29))), .inr (.inr (.inl (.inl 30))), .inr (.inr (.inl (.inl 31))), .inr (.inr (.inl (.inl 32)))]),
  .inr (9, [.inr (.inr (.inl (.inl 33))), .inr (.inr (.inl (.inl 34))), .inr (.inr (.inl (.inl 35))), .inr (.inr (.inl (.inl 36))), .inr (.inr (.inl (.inl 37))), .inr (.inr (.inl (.inl 38))), .inr (.inr (.inl (.inl 39))), .inr (.inr (.inl (.inl 40))), .inr (.inr (.inl (.inl 41))), .inr (.inr (.inl (.inl 42))), .inr (.inr (.inl (.inl 43))), .inr (.inr (.inl (.inl 44))), .inr (.inr (.inl (.inl 45))), .inr (.inr (.inl (.inl 46))), .inr (.inr (.inl (.inl 47))), .inr (.inr (.inl (.inl 48)))]),
  .inr (1, [.inl (.inl 0), .inl (.inl 0)]),
  .inr (0, [.inl (.inl 0), .inl (.inl 0)]),
  .inl (14, [.inl (.inl 101), .inl (.inl 9999), .inl (.inl 9999), .inl (.inl 0), .inl (.inl 0), .inl (.inl 0)])]
def rf_C_1 : List ce_SE := [.inl (14, [.inl (.inl 101), .inl (.inl 0), .inl (.inl 0), .inl (.inl 0), .inl (.inl 0), .inl (.inl 0)]),
  .inl (14, [.inl (.inl 101), .inl (.inl 0), .inl (.inl 0), .inl (.inl 0), .inl (.inl 0), .inl (.inl 0)]),
  .inl (14, [.inl (.inl 101), .inl (.inl 0), .inl (.inl 0), .inl (.inl 0), .inl (.inl 0), .inl (.inl 0)]),
  .inl (14, [.inl (.inl 101), .inl (.inl 0), .inl (.inl 0), .inl (.inl 0), .inl (.inl 0), .inl (.inl 0)]),
  .inl (14, [.inl (.inl 101), .inl (.inl 0), .inl (.inl 0), .inl (.inl 0), .inl (.inl 0), .inl (.inl 0)]),
  .inl (7, [.inl (.inl 0), .inl (.inl 0), .inl (.inl 0), .inl (.inl 0), .inl (.inl 0)]),
  .inl (7, [.inl (.inl 0), .inl (.inl 0), .inl (.inl 0), .inl (.inl 0), .inl (.inl 0)]),
  .inl (7, [.inl (.inl 0), .inl (.inl 0), .inl (.inl 0), .inl (.inl 0), .inl (.inl 0)]),
  .inl (7, [.inl (.inl 0), .inl (.inl 0), .inl (.inl 0), .inl (.inl 0), .inl (.inl 0)]),
  .inl (7, [.inl (.inl 0), .inl (.inl 0), .inl (.inl 0), .inl (.inl 0), .inl (.inl 0)]),
  .inl (7, [.inl (.inl 0), .inl (.inl 0), .inl (.inl 0), .inl (.inl 0), .inl (.inl 0)]),
  .inl (7, [.inl (.inl 0), .inl (.inl 0), .inl (.inl 0), .inl (.inl 0), .inl (.inl 0)]),
  .inl (7, [.inl (.inl 0), .inl (.inl 0), .inl (.inl 0), .inl (.inl 0), .inl (.inl 0)]),
  .inl (9, [.inr (.inr (.inl (.inl 5))), .inl (.inl 0), .inl (.inl 0), .inl (.inl 0), .inl (.inl 0)]),
  .inl (9, [.inr (.inr (.inl (.inl 5))), .inl (.inl 0), .inl (.inl 0), .inl (.inl 0), .inl (.inl 0)]),
  .inl (9, [.inr (.inr (.inl (.inl 5))), .inl (.inl 0), .inl (.inl 0), .inl (.inl 0), .inl (.inl 0)]),
  .inl (9, [.inr (.inr (.inl (.inl 5))), .inl (.inl 0), .inl (.inl 0), .inl (.inl 0), .inl (.inl 0)]),
  .inl (9, [.inr (.inr (.inl (.inl 5))), .inl (.inl 0), .inl (.inl 0), .inl (.inl 0), .inl (.inl 0)]),
  .inl (9, [.inr (.inr (.inl (.inl 5))), .inl (.inl 0), .inl (.inl 0), .inl (.inl 0), .inl (.inl 0)]),
  .inl (9, [.inr (.inr (.inl (.inl 5))), .inl (.inl 0), .inl (.inl 0), .inl (.inl 0), .inl (.inl 0)])]
def rf_C_2 : List ce_SE := [.inl (9, [.inr (.inr (.inl (.inl 5))), .inl (.inl 0), .inl (.inl 0), .inl (.inl 0), .inl (.inl 0)]),
  .inl (9, [.inr (.inr (.inl (.inl 5))), .inl (.inl 0), .inl (.inl 0), .inl (.inl 0), .inl (.inl 0)]),
  .inl (9, [.inr (.inr (.inl (.inl 5))), .inl (.inl 0), .inl (.inl 0), .inl (.inl 0), .inl (.inl 0)]),
  .inl (9, [.inr (.inr (.inl (.inl 5))), .inl (.inl 0), .inl (.inl 0), .inl (.inl 0), .inl (.inl 0)]),
  .inl (9, [.inr (.inr (.inl (.inl 5))), .inl (.inl 0), .inl (.inl 0), .inl (.inl 0), .inl (.inl 0)]),
  .inl (9, [.inr (.inr (.inl (.inl 5))), .inl (.inl 0), .inl (.inl 0), .inl (.inl 0), .inl (.inl 0)]),
  .inl (9, [.inr (.inr (.inl (.inl 5))), .inl (.inl 0), .inl (.inl 0), .inl (.inl 0), .inl (.inl 0)]),
  .inl (9, [.inr (.inr (.inl (.inl 5))), .inl (.inl 0), .inl (.inl 0), .inl (.inl 0), .inl (.inl 0)]),
  .inl (9, [.inr (.inr (.inl (.inl 5))), .inl (.inl 0), .inl (.inl 0), .inl (.inl 0), .inl (.inl 0)]),
  .inl (9, [.inr (.inr (.inl (.inl 5))), .inl (.inl 0), .inl (.inl 0), .inl (.inl 0), .inl (.inl 0)]),
  .inl (12, [.inr (.inr (.inl (.inl 51))), .inl (.inl 0), .inr (.inl (.inl 0)), .inr (.inl (.inl 0)), .inr (.inl (.inl 0))]),
  .inr (11, [.inr (.inr (.inl (.inl 52))), .inr (.inr (.inl (.inl 53))), .inr (.inr (.inl (.inl 54))), .inr (.inr (.inl (.inl 55))), .inr (.inr (.inl (.inl 56))), .inr (.inr (.inl (.inl 57))), .inr (.inr (.inl (.inl 58))), .inr (.inr (.inl (.inl 59))), .inr (.inr (.inl (.inl 60))), .inr (.inr (.inl (.inl 61))), .inr (.inr (.inl (.inl 62))), .inr (.inr (.inl (.inl 63))), .inr (.inr (.inl (.inl 64))), .inr (.inr (.inl (.inl 65))), .inr (.inr (.inl (.inl 66))), .inr (.inr (.inl (.inl 67))), .inr (.inr (.inl (.inl 68))), .inr (.inr (.inl (.inl 69))), .inr (.inr (.inl (.inl 70))), .inr (.inr (.inl (.inl 71))), .inr (.inr (.inl (.inl 72))), .inr (.inr (.inl (.inl 73))), .inr (.inr (.inl (.inl 74))), .inr (.inr (.inl (.inl 75))), .inr (.inr (.inl (.inl 76))), .inr (.inr (.inl (.inl 77))), .inr (.inr (.inl (.inl 78))), .inr (.inr (.inl (.inl 79))), .inr (.inr (.inl (.inl 80))), .inr (.inr (.inl (.inl 81))), .inr (.inr (.inl (.inl 82))), .inr (.inr (.inl (.inl 83))), .inr (.inr (.inl (.inl 84))), .inr (.inr (.inl (.inl 85))), .inr (.inr (.inl (.inl 86))), .inr (.inr (.inl (.inl 87))), .inr (.inr (.inl (.inl 88))), .inr (.inr (.inl (.inl 89))), .inr (.inr (.inl (.inl 90))), .inr (.inr (.inl (.inl 91))), .inr (.inr (.inl (.inl 92))), .inr (.inr (.inl (.inl 93))), .inr (.inr (.inl (.inl 94))), .inr (.inr (.inl (.inl 95))), .inr (.inr (.inl (.inl 96))), .inr (.inr (.inl (.inl 97))), .inr (.inr (.inl (.inl 98))), .inr (.inr (.inl (.inl 99))), .inr (.inr (.inl (.inl 100))), .inr (.inr (.inl (.inl 101))), .inr (.inr (.inl (.inl 102))), .inr (.inr (.inl (.inl 103))), .inr (.inr (.inl (.inl 104))), .inr (.inr (.inl (.inl 105))), .inr (.inr (.inl (.inl 106))), .inr (.inr (.inl (.inl 107))), .inr (.inr (.inl (.inl 108))), .inr (.inr (.inl (.inl 109))), .inr (.inr (.inl (.inl 110))), .inr (.inr (.inl (.inl 111)))]),
  .inl (4, [.inl (.inl 0), .inl (.inl 0), .inl (.inl 0), .inl (.inl 0), .inl (.inl 0), .inl (.inl 0), .inl (.inl 0)]),
  .inl (4, [.inl (.inl 0), .inl (.inl 0), .inl (.inl 0), .inl (.inl 0), .inl (.inl 0), .inl (.inl 0), .inl (.inl 0)]),
  .inl (4, [.inl (.inl 0), .inl (.inl 0), .inl (.inl 0), .inl (.inl 0), .inl (.inl 0), .inl (.inl 0), .inl (.inl 0)]),
  .inl (4, [.inl (.inl 0), .inl (.inl 0), .inl (.inl 0), .inl (.inl 0), .inl (.inl 0), .inl (.inl 0), .inl (.inl 0)]),
  .inl (4, [.inl (.inl 0), .inl (.inl 0), .inl (.inl 0), .inl (.inl 0), .inl (.inl 0), .inl (.inl 0), .inl (.inl 0)]),
  .inl (4, [.inl (.inl 0), .inl (.inl 0), .inl (.inl 0), .inl (.inl 0), .inl (.inl 0), .inl (.inl 0), .inl (.inl 0)]),
  .inl (4, [.inl (.inl 0), .inl (.inl 0), .inl (.inl 0), .inl (.inl 0), .inl (.inl 0), .inl (.inl 0), .inl (.inl 0)]),
  .inl (4, [.inl (.inl 0), .inl (.inl 0), .inl (.inl 0), .inl (.inl 0), .inl (.inl 0), .inl (.inl 0), .inl (.inl 0)])]
def rf_C_3 : List ce_SE := [.inl (4, [.inl (.inl 0), .inl (.inl 0), .inl (.inl 0), .inl (.inl 0), .inl (.inl 0), .inl (.inl 0), .inl (.inl 0)]),
  .inl (4, [.inl (.inl 0), .inl (.inl 0), .inl (.inl 0), .inl (.inl 0), .inl (.inl 0), .inl (.inl 0), .inl (.inl 0)]),
  .inl (4, [.inl (.inl 0), .inl (.inl 0), .inl (.inl 0), .inl (.inl 0), .inl (.inl 0), .inl (.inl 0), .inl (.inl 0)]),
  .inl (4, [.inl (.inl 0), .inl (.inl 0), .inl (.inl 0), .inl (.inl 0), .inl (.inl 0), .inl (.inl 0), .inl (.inl 0)]),
  .inl (4, [.inl (.inl 0), .inl (.inl 0), .inl (.inl 0), .inl (.inl 0), .inl (.inl 0), .inl (.inl 0), .inl (.inl 0)]),
  .inl (4, [.inl (.inl 0), .inl (.inl 0), .inl (.inl 0), .inl (.inl 0), .inl (.inl 0), .inl (.inl 0), .inl (.inl 0)]),
  .inl (4, [.inl (.inl 0), .inl (.inl 0), .inl (.inl 0), .inl (.inl 0), .inl (.inl 0), .inl (.inl 0), .inl (.inl 0)]),
  .inl (4, [.inl (.inl 0), .inl (.inl 0), .inl (.inl 0), .inl (.inl 0), .inl (.inl 0), .inl (.inl 0), .inl (.inl 0)]),
  .inl (4, [.inl (.inl 0), .inl (.inl 0), .inl (.inl 0), .inl (.inl 0), .inl (.inl 0), .inl (.inl 0), .inl (.inl 0)]),
  .inl (4, [.inl (.inl 0), .inl (.inl 0), .inl (.inl 0), .inl (.inl 0), .inl (.inl 0), .inl (.inl 0), .inl (.inl 0)]),
  .inl (4, [.inl (.inl 0), .inl (.inl 0), .inl (.inl 0), .inl (.inl 0), .inl (.inl 0), .inl (.inl 0), .inl (.inl 0)]),
  .inl (4, [.inl (.inl 0), .inl (.inl 0), .inl (.inl 0), .inl (.inl 0), .inl (.inl 0), .inl (.inl 0), .inl (.inl 0)]),
  .inl (4, [.inl (.inl 0), .inl (.inl 0), .inl (.inl 0), .inl (.inl 0), .inl (.inl 0), .inl (.inl 0), .inl (.inl 0)]),
  .inl (4, [.inl (.inl 0), .inl (.inl 0), .inl (.inl 0), .inl (.inl 0), .inl (.inl 0), .inl (.inl 0), .inl (.inl 0)]),
  .inl (4, [.inl (.inl 0), .inl (.inl 0), .inl (.inl 0), .inl (.inl 0), .inl (.inl 0), .inl (.inl 0), .inl (.inl 0)]),
  .inl (4, [.inl (.inl 0), .inl (.inl 0), .inl (.inl 0), .inl (.inl 0), .inl (.inl 0), .inl (.inl 0), .inl (.inl 0)]),
  .inl (4, [.inl (.inl 0), .inl (.inl 0), .inl (.inl 0), .inl (.inl 0), .inl (.inl 0), .inl (.inl 0), .inl (.inl 0)]),
  .inl (4, [.inl (.inl 0), .inl (.inl 0), .inl (.inl 0), .inl (.inl 0), .inl (.inl 0), .inl (.inl 0), .inl (.inl 0)]),
  .inl (4, [.inl (.inl 0), .inl (.inl 0), .inl (.inl 0), .inl (.inl 0), .inl (.inl 0), .inl (.inl 0), .inl (.inl 0)]),
  .inl (4, [.inl (.inl 0), .inl (.inl 0), .inl (.inl 0), .inl (.inl 0), .inl (.inl 0), .inl (.inl 0), .inl (.inl 0)])]
def rf_C_4 : List ce_SE := [.inl (4, [.inl (.inl 0), .inl (.inl 0), .inl (.inl 0), .inl (.inl 0), .inl (.inl 0), .inl (.inl 0), .inl (.inl 0)]),
  .inl (4, [.inl (.inl 0), .inl (.inl 0), .inl (.inl 0), .inl (.inl 0), .inl (.inl 0), .inl (.inl 0), .inl (.inl 0)]),
  .inl (4, [.inl (.inl 0), .inl (.inl 0), .inl (.inl 0), .inl (.inl 0), .inl (.inl 0), .inl (.inl 0), .inl (.inl 0)]),
  .inl (4, [.inl (.inl 0), .inl (.inl 0), .inl (.inl 0), .inl (.inl 0), .inl (.inl 0), .inl (.inl 0), .inl (.inl 0)]),
  .inl (4, [.inl (.inl 0), .inl (.inl 0), .inl (.inl 0), .inl (.inl 0), .inl (.inl 0), .inl (.inl 0), .inl (.inl 0)]),
  .inl (4, [.inl (.inl 0), .inl (.inl 0), .inl (.inl 0), .inl (.inl 0), .inl (.inl 0), .inl (.inl 0), .inl (.inl 0)]),
  .inl (4, [.inl (.inl 0), .inl (.inl 0), .inl (.inl 0), .inl (.inl 0), .inl (.inl 0), .inl (.inl 0), .inl (.inl 0)]),
  .inl (4, [.inl (.inl 0), .inl (.inl 0), .inl (.inl 0), .inl (.inl 0), .inl (.inl 0), .inl (.inl 0), .inl (.inl 0)]),
  .inl (4, [.inl (.inl 0), .inl (.inl 0), .inl (.inl 0), .inl (.inl 0), .inl (.inl 0), .inl (.inl 0), .inl (.inl 0)]),
  .inl (4, [.inl (.inl 0), .inl (.inl 0), .inl (.inl 0), .inl (.inl 0), .inl (.inl 0), .inl (.inl 0), .inl (.inl 0)]),
  .inl (4, [.inl (.inl 0), .inl (.inl 0), .inl (.inl 0), .inl (.inl 0), .inl (.inl 0), .inl (.inl 0), .inl (.inl 0)]),
  .inl (4, [.inl (.inl 0), .inl (.inl 0), .inl (.inl 0), .inl (.inl 0), .inl (.inl 0), .inl (.inl 0), .inl (.inl 0)]),
  .inl (4, [.inl (.inl 0), .inl (.inl 0), .inl (.inl 0), .inl (.inl 0), .inl (.inl 0), .inl (.inl 0), .inl (.inl 0)]),
  .inl (4, [.inl (.inl 0), .inl (.inl 0), .inl (.inl 0), .inl (.inl 0), .inl (.inl 0), .inl (.inl 0), .inl (.inl 0)]),
  .inl (4, [.inl (.inl 0), .inl (.inl 0), .inl (.inl 0), .inl (.inl 0), .inl (.inl 0), .inl (.inl 0), .inl (.inl 0)]),
  .inl (4, [.inl (.inl 0), .inl (.inl 0), .inl (.inl 0), .inl (.inl 0), .inl (.inl 0), .inl (.inl 0), .inl (.inl 0)]),
  .inl (4, [.inl (.inl 0), .inl (.inl 0), .inl (.inl 0), .inl (.inl 0), .inl (.inl 0), .inl (.inl 0), .inl (.inl 0)]),
  .inl (4, [.inl (.inl 0), .inl (.inl 0), .inl (.inl 0), .inl (.inl 0), .inl (.inl 0), .inl (.inl 0), .inl (.inl 0)]),
  .inl (4, [.inl (.inl 0), .inl (.inl 0), .inl (.inl 0), .inl (.inl 0), .inl (.inl 0), .inl (.inl 0), .inl (.inl 0)]),
  .inl (4, [.inl (.inl 0), .inl (.inl 0), .inl (.inl 0), .inl (.inl 0), .inl (.inl 0), .inl (.inl 0), .inl (.inl 0)])]
def rf_C_5 : List ce_SE := [.inl (4, [.inl (.inl 0), .inl (.inl 0), .inl (.inl 0), .inl (.inl 0), .inl (.inl 0), .inl (.inl 0), .inl (.inl 0)]),
  .inl (4, [.inl (.inl 0), .inl (.inl 0), .inl (.inl 0), .inl (.inl 0), .inl (.inl 0), .inl (.inl 0), .inl (.inl 0)]),
  .inl (4, [.inl (.inl 0), .inl (.inl 0), .inl (.inl 0), .inl (.inl 0), .inl (.inl 0), .inl (.inl 0), .inl (.inl 0)]),
  .inl (4, [.inl (.inl 0), .inl (.inl 0), .inl (.inl 0), .inl (.inl 0), .inl (.inl 0), .inl (.inl 0), .inl (.inl 0)]),
  .inl (4, [.inl (.inl 0), .inl (.inl 0), .inl (.inl 0), .inl (.inl 0), .inl (.inl 0), .inl (.inl 0), .inl (.inl 0)]),
  .inl (4, [.inl (.inl 0), .inl (.inl 0), .inl (.inl 0), .inl (.inl 0), .inl (.inl 0), .inl (.inl 0), .inl (.inl 0)]),
  .inl (4, [.inl (.inl 0), .inl (.inl 0), .inl (.inl 0), .inl (.inl 0), .inl (.inl 0), .inl (.inl 0), .inl (.inl 0)]),
  .inl (4, [.inl (.inl 0), .inl (.inl 0), .inl (.inl 0), .inl (.inl 0), .inl (.inl 0), .inl (.inl 0), .inl (.inl 0)]),
  .inl (4, [.inl (.inl 0), .inl (.inl 0), .inl (.inl 0), .inl (.inl 0), .inl (.inl 0), .inl (.inl 0), .inl (.inl 0)]),
  .inl (4, [.inl (.inl 0), .inl (.inl 0), .inl (.inl 0), .inl (.inl 0), .inl (.inl 0), .inl (.inl 0), .inl (.inl 0)]),
  .inl (4, [.inl (.inl 0), .inl (.inl 0), .inl (.inl 0), .inl (.inl 0), .inl (.inl 0), .inl (.inl 0), .inl (.inl 0)]),
  .inl (4, [.inl (.inl 0), .inl (.inl 0), .inl (.inl 0), .inl (.inl 0), .inl (.inl 0), .inl (.inl 0), .inl (.inl 0)]),
  .inl (11, [.inr (.inr (.inl (.inl 50))), .inr (.inr (.inl (.inl 113))), .inr (.inr (.inl (.inl 114))), .inl (.inl 0), .inr (.inr (.inl (.inl 115))), .inl (.inl 0), .inl (.inl 0), .inr (.inr (.inl (.inl 116))), .inr (.inr (.inl (.inl 117))), .inr (.inr (.inl (.inl 118))), .inl (.inl 0), .inr (.inr (.inl (.inl 119))), .inl (.inl 0)]),
  .inr (0, [.inl (.inl 0), .inl (.inl 0), .inl (.inl 0), .inl (.inl 0), .inl (.inl 0), .inl (.inl 0), .inl (.inl 0), .inl (.inl 0), .inl (.inl 0), .inl (.inl 0), .inl (.inl 0), .inl (.inl 0), .inl (.inl 0), .inl (.inl 0), .inl (.inl 0), .inl (.inl 0), .inl (.inl 0), .inl (.inl 0), .inl (.inl 0), .inl (.inl 0), .inl (.inl 0), .inl (.inl 0), .inl (.inl 0), .inl (.inl 0), .inl (.inl 0)]),
  .inr (0, [.inl (.inl 0), .inl (.inl 0), .inl (.inl 0), .inl (.inl 0), .inl (.inl 0), .inl (.inl 0), .inl (.inl 0), .inl (.inl 0), .inl (.inl 0), .inl (.inl 0), .inl (.inl 0), .inl (.inl 0), .inl (.inl 0), .inl (.inl 0), .inl (.inl 0), .inl (.inl 0), .inl (.inl 0), .inl (.inl 0), .inl (.inl 0), .inl (.inl 0), .inl (.inl 0), .inl (.inl 0), .inl (.inl 0), .inl (.inl 0), .inl (.inl 0)]),
  .inr (0, [.inl (.inl 0), .inl (.inl 0), .inl (.inl 0), .inl (.inl 0), .inl (.inl 0), .inl (.inl 0), .inl (.inl 0), .inl (.inl 0), .inl (.inl 0), .inl (.inl 0), .inl (.inl 0), .inl (.inl 0), .inl (.inl 0), .inl (.inl 0), .inl (.inl 0), .inl (.inl 0), .inl (.inl 0), .inl (.inl 0), .inl (.inl 0), .inl (.inl 0), .inl (.inl 0), .inl (.inl 0), .inl (.inl 0), .inl (.inl 0), .inl (.inl 0)]),
  .inr (0, [.inl (.inl 0), .inl (.inl 0), .inl (.inl 0), .inl (.inl 0), .inl (.inl 0), .inl (.inl 0), .inl (.inl 0), .inl (.inl 0), .inl (.inl 0), .inl (.inl 0), .inl (.inl 0), .inl (.inl 0), .inl (.inl 0), .inl (.inl 0), .inl (.inl 0), .inl (.inl 0), .inl (.inl 0), .inl (.inl 0), .inl (.inl 0), .inl (.inl 0), .inl (.inl 0), .inl (.inl 0), .inl (.inl 0), .inl (.inl 0), .inl (.inl 0)]),
  .inr (0, [.inl (.inl 0), .inl (.inl 0), .inl (.inl 0), .inl (.inl 0), .inl (.inl 0), .inl (.inl 0), .inl (.inl 0), .inl (.inl 0), .inl (.inl 0), .inl (.inl 0), .inl (.inl 0), .inl (.inl 0), .inl (.inl 0), .inl (.inl 0), .inl (.inl 0), .inl (.inl 0), .inl (.inl 0), .inl (.inl 0), .inl (.inl 0), .inl (.inl 0), .inl (.inl 0), .inl (.inl 0), .inl (.inl 0), .inl (.inl 0), .inl (.inl 0)]),
  .inr (0, [.inl (.inl 0), .inl (.inl 0), .inl (.inl 0), .inl (.inl 0), .inl (.inl 0), .inl (.inl 0), .inl (.inl 0), .inl (.inl 0), .inl (.inl 0), .inl (.inl 0), .inl (.inl 0), .inl (.inl 0), .inl (.inl 0), .inl (.inl 0), .inl (.inl 0), .inl (.inl 0), .inl (.inl 0), .inl (.inl 0), .inl (.inl 0), .inl (.inl 0), .inl (.inl 0), .inl (.inl 0), .inl (.inl 0), .inl (.inl 0), .inl (.inl 0)]),
  .inr (11, [.inr (.inr (.inl (.inl 120))), .inr (.inr (.inl (.inl 121))), .inr (.inr (.inl (.inl 122))), .inr (.inr (.inl (.inl 123))), .inr (.inr (.inl (.inl 124))), .inr (.inr (.inl (.inl 125))), .inr (.inr (.inl (.inl 126))), .inr (.inr (.inl (.inl 127))), .inr (.inr (.inl (.inl 128))), .inr (.inr (.inl (.inl 129))), .inr (.inr (.inl (.inl 130))), .inr (.inr (.inl (.inl 131))), .inr (.inr (.inl (.inl 132))), .inr (.inr (.inl (.inl 133))), .inr (.inr (.inl (.inl 134))), .inr (.inr (.inl (.inl 135))), .inr (.inr (.inl (.inl 136))), .inr (.inr (.inl (.inl 137))), .inr (.inr (.inl (.inl 138))), .inr (.inr (.inl (.inl 139))), .inr (.inr (.inl (.inl 140))), .inr (.inr (.inl (.inl 141))), .inr (.inr (.inl (.inl 142))), .inr (.inr (.inl (.inl 143))), .inr (.inr (.inl (.inl 144))), .inr (.inr (.inl (.inl 145))), .inr (.inr (.inl (.inl 146))), .inr (.inr (.inl (.inl 147))), .inr (.inr (.inl (.inl 148))), .inr (.inr (.inl (.inl 149))), .inr (.inr (.inl (.inl 150))), .inr (.inr (.inl (.inl 151))), .inr (.inr (.inl (.inl 152))), .inr (.inr (.inl (.inl 153))), .inr (.inr (.inl (.inl 154))), .inr (.inr (.inl (.inl 155))), .inr (.inr (.inl (.inl 156))), .inr (.inr (.inl (.inl 157))), .inr (.inr (.inl (.inl 158))), .inr (.inr (.inl (.inl 159))), .inr (.inr (.inl (.inl 160))), .inr (.inr (.inl (.inl 161))), .inr (.inr (.inl (.inl 162))), .inr (.inr (.inl (.inl 163))), .inr (.inr (.inl (.inl 164))), .inr (.inr (.inl (.inl 165))), .inr (.inr (.inl (.inl 166))), .inr (.inr (.inl (.inl 167))), .inr (.inr (.inl (.inl 168))), .inr (.inr (.inl (.inl 169)))])]
def rf_C_6 : List ce_SE := [.inl (4, [.inl (.inl 0), .inl (.inl 0), .inl (.inl 0), .inl (.inl 0), .inl (.inl 0), .inl (.inl 0), .inl (.inl 0)]),
  .inl (4, [.inl (.inl 0), .inl (.inl 0), .inl (.inl 0), .inl (.inl 0), .inl (.inl 0), .inl (.inl 0), .inl (.inl 0)]),
  .inl (4, [.inl (.inl 0), .inl (.inl 0), .inl (.inl 0), .inl (.inl 0), .inl (.inl 0), .inl (.inl 0), .inl (.inl 0)]),
  .inl (4, [.inl (.inl 0), .inl (.inl 0), .inl (.inl 0), .inl (.inl 0), .inl (.inl 0), .inl (.inl 0), .inl (.inl 0)]),
  .inl (4, [.inl (.inl 0), .inl (.inl 0), .inl (.inl 0), .inl (.inl 0), .inl (.inl 0), .inl (.inl 0), .inl (.inl 0)]),
  .inl (4, [.inl (.inl 0), .inl (.inl 0), .inl (.inl 0), .inl (.inl 0), .inl (.inl 0), .inl (.inl 0), .inl (.inl 0)]),
  .inl (4, [.inl (.inl 0), .inl (.inl 0), .inl (.inl 0), .inl (.inl 0), .inl (.inl 0), .inl (.inl 0), .inl (.inl 0)]),
  .inl (4, [.inl (.inl 0), .inl (.inl 0), .inl (.inl 0), .inl (.inl 0), .inl (.inl 0), .inl (.inl 0), .inl (.inl 0)]),
  .inl (4, [.inl (.inl 0), .inl (.inl 0), .inl (.inl 0), .inl (.inl 0), .inl (.inl 0), .inl (.inl 0), .inl (.inl 0)]),
  .inl (4, [.inl (.inl 0), .inl (.inl 0), .inl (.inl 0), .inl (.inl 0), .inl (.inl 0), .inl (.inl 0), .inl (.inl 0)]),
  .inl (4, [.inl (.inl 0), .inl (.inl 0), .inl (.inl 0), .inl (.inl 0), .inl (.inl 0), .inl (.inl 0), .inl (.inl 0)]),
  .inl (4, [.inl (.inl 0), .inl (.inl 0), .inl (.inl 0), .inl (.inl 0), .inl (.inl 0), .inl (.inl 0), .inl (.inl 0)]),
  .inl (4, [.inl (.inl 0), .inl (.inl 0), .inl (.inl 0), .inl (.inl 0), .inl (.inl 0), .inl (.inl 0), .inl (.inl 0)]),
  .inl (4, [.inl (.inl 0), .inl (.inl 0), .inl (.inl 0), .inl (.inl 0), .inl (.inl 0), .inl (.inl 0), .inl (.inl 0)]),
  .inl (4, [.inl (.inl 0), .inl (.inl 0), .inl (.inl 0), .inl (.inl 0), .inl (.inl 0), .inl (.inl 0), .inl (.inl 0)]),
  .inl (4, [.inl (.inl 0), .inl (.inl 0), .inl (.inl 0), .inl (.inl 0), .inl (.inl 0), .inl (.inl 0), .inl (.inl 0)]),
  .inl (4, [.inl (.inl 0), .inl (.inl 0), .inl (.inl 0), .inl (.inl 0), .inl (.inl 0), .inl (.inl 0), .inl (.inl 0)]),
  .inl (4, [.inl (.inl 0), .inl (.inl 0), .inl (.inl 0), .inl (.inl 0), .inl (.inl 0), .inl (.inl 0), .inl (.inl 0)]),
  .inl (4, [.inl (.inl 0), .inl (.inl 0), .inl (.inl 0), .inl (.inl 0), .inl (.inl 0), .inl (.inl 0), .inl (.inl 0)]),
  .inl (4, [.inl (.inl 0), .inl (.inl 0), .inl (.inl 0), .inl (.inl 0), .inl (.inl 0), .inl (.inl 0), .inl (.inl 0)])]
def rf_C_7 : List ce_SE := [.inl (4, [.inl (.inl 0), .inl (.inl 0), .inl (.inl 0), .inl (.inl 0), .inl (.inl 0), .inl (.inl 0), .inl (.inl 0)]),
  .inl (4, [.inl (.inl 0), .inl (.inl 0), .inl (.inl 0), .inl (.inl 0), .inl (.inl 0), .inl (.inl 0), .inl (.inl 0)]),
  .inl (4, [.inl (.inl 0), .inl (.inl 0), .inl (.inl 0), .inl (.inl 0), .inl (.inl 0), .inl (.inl 0), .inl (.inl 0)]),
  .inl (4, [.inl (.inl 0), .inl (.inl 0), .inl (.inl 0), .inl (.inl 0), .inl (.inl 0), .inl (.inl 0), .inl (.inl 0)]),
  .inl (4, [.inl (.inl 0), .inl (.inl 0), .inl (.inl 0), .inl (.inl 0), .inl (.inl 0), .inl (.inl 0), .inl (.inl 0)]),
  .inl (4, [.inl (.inl 0), .inl (.inl 0), .inl (.inl 0), .inl (.inl 0), .inl (.inl 0), .inl (.inl 0), .inl (.inl 0)]),
  .inl (4, [.inl (.inl 0), .inl (.inl 0), .inl (.inl 0), .inl (.inl 0), .inl (.inl 0), .inl (.inl 0), .inl (.inl 0)]),
  .inl (4, [.inl (.inl 0), .inl (.inl 0), .inl (.inl 0), .inl (.inl 0), .inl (.inl 0), .inl (.inl 0), .inl (.inl 0)]),
  .inl (4, [.inl (.inl 0), .inl (.inl 0), .inl (.inl 0), .inl (.inl 0), .inl (.inl 0), .inl (.inl 0), .inl (.inl 0)]),
  .inl (4, [.inl (.inl 0), .inl (.inl 0), .inl (.inl 0), .inl (.inl 0), .inl (.inl 0), .inl (.inl 0), .inl (.inl 0)]),
  .inl (4, [.inl (.inl 0), .inl (.inl 0), .inl (.inl 0), .inl (.inl 0), .inl (.inl 0), .inl (.inl 0), .inl (.inl 0)]),
  .inl (4, [.inl (.inl 0), .inl (.inl 0), .inl (.inl 0), .inl (.inl 0), .inl (.inl 0), .inl (.inl 0), .inl (.inl 0)]),
  .inl (4, [.inl (.inl 0), .inl (.inl 0), .inl (.inl 0), .inl (.inl 0), .inl (.inl 0), .inl (.inl 0), .inl (.inl 0)]),
  .inl (4, [.inl (.inl 0), .inl (.inl 0), .inl (.inl 0), .inl (.inl 0), .inl (.inl 0), .inl (.inl 0), .inl (.inl 0)]),
  .inl (4, [.inl (.inl 0), .inl (.inl 0), .inl (.inl 0), .inl (.inl 0), .inl (.inl 0), .inl (.inl 0), .inl (.inl 0)]),
  .inl (4, [.inl (.inl 0), .inl (.inl 0), .inl (.inl 0), .inl (.inl 0), .inl (.inl 0), .inl (.inl 0), .inl (.inl 0)]),
  .inl (4, [.inl (.inl 0), .inl (.inl 0), .inl (.inl 0), .inl (.inl 0), .inl (.inl 0), .inl (.inl 0), .inl (.inl 0)]),
  .inl (4, [.inl (.inl 0), .inl (.inl 0), .inl (.inl 0), .inl (.inl 0), .inl (.inl 0), .inl (.inl 0), .inl (.inl 0)]),
  .inl (4, [.inl (.inl 0), .inl (.inl 0), .inl (.inl 0), .inl (.inl 0), .inl (.inl 0), .inl (.inl 0), .inl (.inl 0)]),
  .inl (4, [.inl (.inl 0), .inl (.inl 0), .inl (.inl 0), .inl (.inl 0), .inl (.inl 0), .inl (.inl 0), .inl (.inl 0)])]
def rf_C_8 : List ce_SE := [.inl (4, [.inl (.inl 0), .inl (.inl 0), .inl (.inl 0), .inl (.inl 0), .inl (.inl 0), .inl (.inl 0), .inl (.inl 0)]),
  .inl (4, [.inl (.inl 0), .inl (.inl 0), .inl (.inl 0), .inl (.inl 0), .inl (.inl 0), .inl (.inl 0), .inl (.inl 0)]),
  .inl (4, [.inl (.inl 0), .inl (.inl 0), .inl (.inl 0), .inl (.inl 0), .inl (.inl 0), .inl (.inl 0), .inl (.inl 0)]),
  .inl (4, [.inl (.inl 0), .inl (.inl 0), .inl (.inl 0), .inl (.inl 0), .inl (.inl 0), .inl (.inl 0), .inl (.inl 0)]),
  .inl (4, [.inl (.inl 0), .inl (.inl 0), .inl (.inl 0), .inl (.inl 0), .inl (.inl 0), .inl (.inl 0), .inl (.inl 0)]),
  .inl (4, [.inl (.inl 0), .inl (.inl 0), .inl (.inl 0), .inl (.inl 0), .inl (.inl 0), .inl (.inl 0), .inl (.inl 0)]),
  .inl (4, [.inl (.inl 0), .inl (.inl 0), .inl (.inl 0), .inl (.inl 0), .inl (.inl 0), .inl (.inl 0), .inl (.inl 0)]),
  .inl (4, [.inl (.inl 0), .inl (.inl 0), .inl (.inl 0), .inl (.inl 0), .inl (.inl 0), .inl (.inl 0), .inl (.inl 0)]),
  .inl (4, [.inl (.inl 0), .inl (.inl 0), .inl (.inl 0), .inl (.inl 0), .inl (.inl 0), .inl (.inl 0), .inl (.inl 0)]),
  .inl (4, [.inl (.inl 0), .inl (.inl 0), .inl (.inl 0), .inl (.inl 0), .inl (.inl 0), .inl (.inl 0), .inl (.inl 0)]),
  .inl (8, [.inr (.inr (.inl (.inl 171))), .inr (.inr (.inl (.inl 172))), .inr (.inr (.inl (.inl 173))), .inl (.inl 0)]),
  .inr (0, [.inl (.inl 0), .inl (.inl 0), .inl (.inl 0), .inl (.inl 0), .inl (.inl 0), .inl (.inl 0), .inl (.inl 0), .inl (.inl 0), .inl (.inl 0), .inl (.inl 0), .inl (.inl 0), .inl (.inl 0), .inl (.inl 0), .inl (.inl 0), .inl (.inl 0), .inl (.inl 0), .inl (.inl 0), .inl (.inl 0), .inl (.inl 0), .inl (.inl 0), .inl (.inl 0), .inl (.inl 0), .inl (.inl 0), .inl (.inl 0), .inl (.inl 0)]),
  .inr (0, [.inl (.inl 0), .inl (.inl 0), .inl (.inl 0), .inl (.inl 0), .inl (.inl 0), .inl (.inl 0), .inl (.inl 0), .inl (.inl 0), .inl (.inl 0), .inl (.inl 0), .inl (.inl 0), .inl (.inl 0), .inl (.inl 0), .inl (.inl 0), .inl (.inl 0), .inl (.inl 0), .inl (.inl 0), .inl (.inl 0), .inl (.inl 0), .inl (.inl 0), .inl (.inl 0), .inl (.inl 0), .inl (.inl 0), .inl (.inl 0), .inl (.inl 0)]),
  .inr (0, [.inl (.inl 0), .inl (.inl 0), .inl (.inl 0), .inl (.inl 0), .inl (.inl 0), .inl (.inl 0), .inl (.inl 0), .inl (.inl 0), .inl (.inl 0), .inl (.inl 0), .inl (.inl 0), .inl (.inl 0), .inl (.inl 0), .inl (.inl 0), .inl (.inl 0), .inl (.inl 0), .inl (.inl 0), .inl (.inl 0), .inl (.inl 0), .inl (.inl 0), .inl (.inl 0), .inl (.inl 0), .inl (.inl 0), .inl (.inl 0), .inl (.inl 0)]),
  .inl (5, [.inr (.inr (.inl (.inl 175))), .inr (.inr (.inl (.inl 176))), .inr (.inr (.inl (.inl 177))), .inr (.inr (.inl (.inl 178))), .inr (.inr (.inl (.inl 179))), .inl (.inl 0), .inl (.inl 2), .inl (.inl 0)]),
  .inr (0, [.inl (.inl 0), .inl (.inl 0), .inl (.inl 0), .inl (.inl 0), .inl (.inl 0), .inl (.inl 0)]),
  .inr (0, [.inl (.inl 0), .inl (.inl 0), .inl (.inl 0), .inl (.inl 0), .inl (.inl 0), .inl (.inl 0)]),
  .inr (0, [.inl (.inl 0), .inl (.inl 0), .inl (.inl 0), .inl (.inl 0), .inl (.inl 0), .inl (.inl 0)]),
  .inr (0, [.inl (.inl 0), .inl (.inl 0), .inl (.inl 0), .inl (.inl 0), .inl (.inl 0), .inl (.inl 0)]),
  .inr (0, [.inl (.inl 0), .inl (.inl 0), .inl (.inl 0), .inl (.inl 0), .inl (.inl 0), .inl (.inl 0)])]
def rf_C_9 : List ce_SE := [.inr (0, [.inl (.inl 2), .inl (.inl 5), .inl (.inl 9)]),
  .inl (20, [.inl (.inl 0), .inr (.inr (.inl (.inl 182))), .inr (.inr (.inl (.inl 183))), .inr (.inr (.inl (.inr 2))), .inr (.inr (.inl (.inl 184))), .inr (.inr (.inl (.inl 185))), .inr (.inr (.inl (.inl 186))), .inr (.inr (.inl (.inl 187))), .inr (.inr (.inl (.inl 188))), .inl (.inl 2), .inr (.inl (.inl 0)), .inr (.inl (.inl 0)), .inr (.inl (.inl 0)), .inr (.inr (.inl (.inr 2))), .inr (.inr (.inl (.inl 189))), .inr (.inr (.inr .null)), .inl (.inl 0), .inl (.inl 0), .inl (.inl 0), .inr (.inr (.inl (.inl 190)))]),
  .inl (3, [.inl (.inl 1), .inr (.inr (.inl (.inl 194))), .inl (.inl 1)]),
  .inl (3, [.inl (.inl 0), .inr (.inr (.inl (.inr 1))), .inl (.inl 0)]),
  .inl (3, [.inl (.inl 0), .inr (.inr (.inl (.inr 1))), .inl (.inl 0)]),
  .inl (3, [.inl (.inl 0), .inr (.inr (.inl (.inr 1))), .inl (.inl 0)]),
  .inl (3, [.inl (.inl 0), .inr (.inr (.inl (.inr 1))), .inl (.inl 0)]),
  .inl (3, [.inl (.inl 0), .inr (.inr (.inl (.inr 1))), .inl (.inl 0)]),
  .inr (0, [.inl (.inl 2), .inl (.inl 5), .inl (.inl 9)]),
  .inr (0, [.inl (.inl 0), .inl (.inl 0)]),
  .inr (0, []),
  .inr (4, [.inr (.inl (.inl 9999))]),
  .inr (5, [.inr (.inr (.inr (.double 0)))]),
  .inl (19, [.inl (.inl 101), .inl (.inl 9999), .inl (.inl 9999), .inl (.inl 0), .inl (.inl 0)]),
  .inr (6, [.inr (.inr (.inl (.inl 193))), .inr (.inr (.inr .null)), .inr (.inr (.inr .null)), .inr (.inr (.inr .null)), .inr (.inr (.inr .null)), .inr (.inr (.inr .null)), .inr (.inr (.inr .null)), .inr (.inr (.inr .null)), .inr (.inr (.inr .null)), .inr (.inr (.inr .null))])]
def rf_C : List ce_SE := rf_C_0 ++ (rf_C_1 ++ (rf_C_2 ++ (rf_C_3 ++ (rf_C_4 ++ (rf_C_5 ++ (rf_C_6 ++ (rf_C_7 ++ (rf_C_8 ++ (rf_C_9)))))))))
def ce_dSV : DecidableEq ce_SV := inferInstance
def ce_dVL : DecidableEq (List ce_SV) := @instDecidableEqList _ ce_dSV
def ce_dSE : DecidableEq ce_SE := by
  have h : DecidableEq (List ce_SV) := ce_dVL
  infer_instance
def ce_dSL : DecidableEq (List ce_SE) := @instDecidableEqList _ ce_dSE
def ce_dL : DecidableEq ce_L := by
  have h : DecidableEq ce_SV := ce_dSV
  infer_instance
def ce_dG : DecidableEq ce_G := by
  have h : DecidableEq (List ce_SE) := ce_dSL
  infer_instance
def ce_dO : DecidableEq (Option (ce_L × ce_G)) := by
  have h : DecidableEq ce_L := ce_dL
  have h2 : DecidableEq ce_G := ce_dG
  infer_instance
def ce_dR : DecidableEq (Option ce_R) := by
  have h : DecidableEq ce_SV := ce_dSV
  have h2 : DecidableEq ce_G := ce_dG
  infer_instance
abbrev rf_r (k : Nat) : ce_SV := .inr (.inr (.inl (.inl k)))
abbrev rf_i (n : Int) : ce_SV := .inl (.inl n)
theorem rf_Clen : rf_C.length = 195 := by decide +kernel
/-- a value that no script tells -/
def rf_nt : ce_SV → Bool
  | .inl (.inl _) => true
  | .inr (.inl (.inl _)) => true
  | .inr (.inr _) => true
  | _ => false
def rf_nte : ce_SE → Bool
  | .inl x => x.2.all rf_nt
  | .inr x => x.2.all rf_nt
theorem rf_Cnt : rf_C.all rf_nte = true := by decide +kernel
theorem rf_Cwe : rf_C.all (ce_we rf_C.length) = true := by decide +kernel
theorem rf_v {z z2 : ce_U} (h : z.2 = z2.2) {ad : Nat → Nat} {v : ce_SV} (hv : rf_nt v = true) : ce_v z ad v = ce_v z2 ad v := by
  obtain ⟨x1, y⟩ := z
  obtain ⟨x2, y2⟩ := z2
  dsimp only at h
  subst h
  match v, hv with
  | .inl (.inl n), _ => rfl
  | .inr (.inl (.inl n)), _ => rfl
  | .inr (.inr (.inl (.inl k))), _ => rfl
  | .inr (.inr (.inl (.inr j))), _ => rfl
  | .inr (.inr (.inr v)), _ => rfl
theorem rf_e {z z2 : ce_U} (h : z.2 = z2.2) {ad : Nat → Nat} {e : ce_SE} (he : rf_nte e = true) : ce_e z ad e = ce_e z2 ad e := by
  match e, he with
  | .inl x, he =>
    exact congrArg (fun l => (Sum.inr (x.1, l) : va_E)) (List.map_congr_left fun v hv => rf_v h (List.all_eq_true.mp he v hv))
  | .inr x, he =>
    have hf : (fun j => ce_v z ad (x.2.getD j ce_0)) = fun j => ce_v z2 ad (x.2.getD j ce_0) := funext fun j => by
      rw [List.getD_eq_getElem?_getD]
      cases hj : x.2[j]? with
      | none => rfl
      | some v => exact rf_v h (List.all_eq_true.mp he v (List.mem_of_getElem? hj))
    have hg : ∀ {β : Type} (g : Value → β), (fun j => g (ce_v z ad (x.2.getD j ce_0))) = fun j => g (ce_v z2 ad (x.2.getD j ce_0)) := fun g => funext fun j => congrArg g (congrFun hf j)
    have hc : ce_cA z = ce_cA z2 := congrArg (fun y : (Nat → Value) × (Nat → ClassId) × va_G × Nat × Nat => y.2.1) h
    unfold ce_e ce_ar
    simp only [hg, hc]
theorem rf_w {z z2 : ce_U} (h : z.2 = z2.2) {ad : Nat → Nat} {C X : List ce_SE} (hn : C.all rf_nte = true) {k : Nat} {q : Nat × va_E} (hq : (ce_w z2 ad 0 C)[k]? = some q) : (ce_w z ad 0 (C ++ X))[k]? = some q := by
  rw [ce_w_get] at hq ⊢
  cases hk : C[k]? with
  | none => rw [hk] at hq; cases hq
  | some e =>
    rw [hk] at hq
    have hlt : k < C.length := (List.getElem?_eq_some_iff.mp hk).1
    rw [List.getElem?_append_left hlt, hk]
    have he := rf_e h (ad := ad) (List.all_eq_true.mp hn e (List.mem_of_getElem? hk))
    simp only [Option.map_some] at hq ⊢
    rw [he]; exact hq
/-- other numbers that the script tells, other facts, fewer cells -/
theorem rf_Inv {z z2 : ce_U} (h : z.2 = z2.2) {ad : Nat → Nat} {C X : List ce_SE} (hn : C.all rf_nte = true) (hw : C.all (ce_we C.length) = true) {F F2 : ce_F} {a b a2 b2 : Nat} {H : Heap} (hF : ce_sat z2 F2) (hI : ce_Inv z ad (F, C ++ X, a, b) H) : ce_Inv z2 ad (F2, C, a2, b2) H := by
  have hD : ce_D z = ce_D z2 := congrArg (fun y : (Nat → Value) × (Nat → ClassId) × va_G × Nat × Nat => y.2.2.1) h
  have hA : ce_A z = ce_A z2 := funext fun q => congrArg (fun y : (Nat → Value) × (Nat → ClassId) × va_G × Nat × Nat => y.2.2.2.1 ≤ q) h
  obtain ⟨i1, ⟨i2, i3⟩, -, -⟩ := hI
  refine ⟨fun k q hq => ?_, ⟨fun i j p q hp hq e => i2 i j p q (rf_w h hn hp) (rf_w h hn hq) e, fun k q hq => ?_⟩, hw, hF⟩
  · rw [← hD]; exact i1 k q (rf_w h hn hq)
  · rw [← hA]; exact i3 k q (rf_w h hn hq)
theorem rf_P_app {D : va_G} {cl : List vw_C} {ws : va_W} {H : Heap} {q : Nat × va_E} (h : va_P D cl ws H) (hq : va_at D cl q H) : va_P D cl (ws ++ [q]) H := fun k x hx => by
  rcases List.mem_append.mp (List.mem_of_getElem? hx) with hm | hm
  · obtain ⟨j, hj⟩ := List.mem_iff_getElem?.mp hm
    exact h j x hj
  · rw [List.mem_singleton.mp hm]; exact hq
theorem rf_D_app {A : Nat → Prop} {ws : va_W} {q : Nat × va_E} (h : va_D A ws) (hA : A q.1) (hn : ∀ (k : Nat) (x : Nat × va_E), ws[k]? = some x → x.1 ≠ q.1) : va_D A (ws ++ [q]) := by
  have key : ∀ (i : Nat) (x : Nat × va_E), (ws ++ [q])[i]? = some x → (i < ws.length ∧ ws[i]? = some x) ∨ (i = ws.length ∧ x = q) := fun i x hx => by
    rcases Nat.lt_trichotomy i ws.length with hi | hi | hi
    · rw [List.getElem?_append_left hi] at hx; exact Or.inl ⟨hi, hx⟩
    · subst hi
      rw [List.getElem?_append_right (Nat.le_refl _), Nat.sub_self] at hx
      exact Or.inr ⟨rfl, (Option.some.inj hx).symm⟩
    · rw [List.getElem?_append_right (by omega)] at hx
      obtain ⟨j, hj⟩ := Nat.exists_eq_add_of_lt hi
      rw [hj, show ws.length + j + 1 - ws.length = j + 1 by omega] at hx
      cases hx
  refine ⟨fun i j p r hp hr e => ?_, fun k r hr => ?_⟩
  · rcases key i p hp with ⟨hi, hp2⟩ | ⟨hi, hp2⟩
    · rcases key j r hr with ⟨hj, hr2⟩ | ⟨hj, hr2⟩
      · exact h.1 i j p r hp2 hr2 e
      · rw [hr2] at e
        exact absurd e (hn i p hp2)
    · rcases key j r hr with ⟨hj, hr2⟩ | ⟨hj, hr2⟩
      · rw [hp2] at e
        exact absurd e.symm (hn j r hr2)
      · omega
  · rcases key k r hr with ⟨-, hr2⟩ | ⟨-, hr2⟩
    · exact h.2 k r hr2
    · rw [hr2]; exact hA
theorem rf_end {z : ce_U} {ad : Nat → Nat} {n0 gr mc ms : Nat} {S : ce_R} {below : List Frame} {X : String → State → State → Prop} {args : Array Value} {s : State} {A : Addr → Prop} {t : State} (h : vx_MQ below (ce_Qc z ad n0 S) X args s mc ms A t) (hg : s.heap.size + gr ≤ t.heap.size) : vx_MQ below (rf_Q z ad n0 S gr) X args s mc ms A t := by
  obtain ⟨o, b1, b2, h⟩ := h
  refine ⟨o, b1, b2, ?_⟩
  rcases h with ⟨h1, h2⟩ | h
  · exact Or.inl ⟨⟨h1, hg⟩, h2⟩
  · exact Or.inr h
theorem rf_cv {ci : Nat} {F : ce_C} {v : ce_SV} {vs : List ce_SV} {A : ce_F} {C : List ce_SE} {r q r2 q2 : Nat} {S : ce_R} (h : ce_CV ci F (v :: vs) (A, C, r, q) = some S) (hF : F (v :: vs) (A, C, r2, q2) = F (v :: vs) (A, C, r, q)) : ce_CV ci F (v :: vs) (A, C, r2, q2) = some S := by
  have e : ce_rc ci v (A, C, r2, q2) = ce_rc ci v (A, C, r, q) := rfl
  unfold ce_CV at h ⊢
  dsimp only at h ⊢
  rw [e, hF]
  exact h
