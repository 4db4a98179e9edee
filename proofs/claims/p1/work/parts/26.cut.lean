/-! the state at the switch, behind the constructors, and the cases behind it -/
def ce_S1_0 : List ce_SE := [.inl (15, [.inr (.inr (.inl (.inl 1))), .inr (.inr (.inl (.inl 13))), .inr (.inr (.inl (.inl 50))), .inr (.inr (.inl (.inl 112))), .inr (.inr (.inl (.inl 170))), .inr (.inr (.inl (.inl 174))), .inr (.inr (.inl (.inl 180)))]),
  .inl (13, [.inr (.inr (.inl (.inl 2))), .inr (.inr (.inl (.inl 3))), .inr (.inr (.inl (.inl 4))), .inl (.inl 0), .inl (.inl 0), .inl (.inl 0), .inl (.inl 0), .inl (.inl 0), .inl (.inl 0), .inl (.inl 0)]),
  .inr (1, List.replicate 30 (.inl (.inl 0))),
  .inr (10, [.inr (.inr (.inl (.inl 5))), .inr (.inr (.inl (.inl 6))), .inr (.inr (.inl (.inl 7))), .inr (.inr (.inl (.inl 8))), .inr (.inr (.inl (.inl 9))), .inr (.inr (.inl (.inl 10))), .inr (.inr (.inl (.inl 11))), .inr (.inr (.inl (.inl 12)))]),
  .inl (6, [.inl (.inl 98), .inl (.inl 0), .inl (.inl 0), .inl (.inl 0), .inl (.inl 0), .inl (.inl 0), .inl (.inl 0), .inl (.inl 0), .inl (.inl 0)]),
  .inl (6, [.inl (.inl 98), .inl (.inl 0), .inl (.inl 0), .inl (.inl 0), .inl (.inl 0), .inl (.inl 0), .inl (.inl 0), .inl (.inl 0), .inl (.inl 0)]),
  .inl (6, [.inl (.inl 98), .inl (.inl 0), .inl (.inl 0), .inl (.inl 0), .inl (.inl 0), .inl (.inl 0), .inl (.inl 0), .inl (.inl 0), .inl (.inl 0)]),
  .inl (6, [.inl (.inl 98), .inl (.inl 0), .inl (.inl 0), .inl (.inl 0), .inl (.inl 0), .inl (.inl 0), .inl (.inl 0), .inl (.inl 0), .inl (.inl 0)]),
  .inl (6, [.inl (.inl 98), .inl (.inl 0), .inl (.inl 0), .inl (.inl 0), .inl (.inl 0), .inl (.inl 0), .inl (.inl 0), .inl (.inl 0), .inl (.inl 0)]),
  .inl (6, [.inl (.inl 98), .inl (.inl 0), .inl (.inl 0), .inl (.inl 0), .inl (.inl 0), .inl (.inl 0), .inl (.inl 0), .inl (.inl 0), .inl (.inl 0)]),
  .inl (6, [.inl (.inl 98), .inl (.inl 0), .inl (.inl 0), .inl (.inl 0), .inl (.inl 0), .inl (.inl 0), .inl (.inl 0), .inl (.inl 0), .inl (.inl 0)]),
  .inl (6, [.inl (.inl 98), .inl (.inl 0), .inl (.inl 0), .inl (.inl 0), .inl (.inl 0), .inl (.inl 0), .inl (.inl 0), .inl (.inl 0), .inl (.inl 0)]),
  .inl (6, [.inl (.inl 98), .inl (.inl 0), .inl (.inl 0), .inl (.inl 0), .inl (.inl 0), .inl (.inl 0), .inl (.inl 0), .inl (.inl 0), .inl (.inl 0)]),
  .inl (10, [.inr (.inr (.inl (.inl 14))), .inr (.inr (.inl (.inl 15))), .inr (.inr (.inl (.inl 16))), .inr (.inr (.inl (.inl 49))), .inr (.inr (.inl (.inl 17))), .inr (.inr (.inl (.inl 18))), .inl (.inl 0), .inl (.inl 0), .inl (.inl 0), .inl (.inl 0)]),
  .inr (7, [.inr (.inr (.inl (.inl 19))), .inr (.inr (.inl (.inl 20))), .inr (.inr (.inl (.inl 21))), .inr (.inr (.inl (.inl 22))), .inr (.inr (.inl (.inl 23))), .inr (.inr (.inl (.inl 24)))]),
  .inr (8, [.inr (.inr (.inl (.inl 25))), .inr (.inr (.inl (.inl 26))), .inr (.inr (.inl (.inl 27))), .inr (.inr (.inl (.inl 28))), .inr (.inr (.inl (.inl 29))), .inr (.inr (.inl (.inl 30))), .inr (.inr (.inl (.inl 31))), .inr (.inr (.inl (.inl 32)))]),
  .inr (9, [.inr (.inr (.inl (.inl 33))), .inr (.inr (.inl (.inl 34))), .inr (.inr (.inl (.inl 35))), .inr (.inr (.inl (.inl 36))), .inr (.inr (.inl (.inl 37))), .inr (.inr (.inl (.inl 38))), .inr (.inr (.inl (.inl 39))), .inr (.inr (.inl (.inl 40))), .inr (.inr (.inl (.inl 41))), .inr (.inr (.inl (.inl 42))), .inr (.inr (.inl (.inl 43))), .inr (.inr (.inl (.inl 44))), .inr (.inr (.inl (.inl 45))), .inr (.inr (.inl (.inl 46))), .inr (.inr (.inl (.inl 47))), .inr (.inr (.inl (.inl 48)))]),
  .inr (1, [.inl (.inl 0), .inl (.inl 0)]),
  .inr (0, [.inl (.inl 0), .inl (.inl 0)]),
  .inl (14, [.inl (.inl 101), .inl (.inl 0), .inl (.inl 0), .inl (.inl 0), .inl (.inl 0), .inl (.inl 0)])]
def ce_S1_1 : List ce_SE := [.inl (14, [.inl (.inl 101), .inl (.inl 0), .inl (.inl 0), .inl (.inl 0), .inl (.inl 0), .inl (.inl 0)]),
  .inl (14, [.inl (.inl 101), .inl (.inl 0), .inl (.inl 0), .inl (.inl 0), .inl (.inl 0), .inl (.inl 0)]),
  .inl (14, [.inl (.inl 101), .inl (.inl 0), .inl (.inl 0), .inl (.inl 0), .inl (.inl 0), .inl (.inl 0)]),
  .inl (14, [.inl (.inl 101), .inl (.inl 0), .inl (.inl 0), .inl (.inl 0), .inl (.inl 0), .inl (.inl 0)]),
  .inl (14, [.inl (.inl 101), .inl (.inl 0), .inl (.inl 0), .inl (.inl 0), .inl (.inl 0), .inl (.inl 0)]),
  .inl (7, [.inl (.inl 0), .inl (.inl 0), .inl (.inl 0), .inl (.inl 0), .inl (.inl 0)]),
  .inl (7, [.inl (.inl 0), .inl (.inl 0), .inl (.inl 0), .inl (.inl 0), .inl (.inl 0)]),
  .inl (7, [.inl (.inl 0), .inl (.inl 0), .inl (.inl 0), .inl (.inl 0), .inl (.inl 0)]),
  .inl (7, [.inl (.inl 0), .inl (.inl 0), .inl (.inl 0), .inl (.inl 0), .inl (.inl 0)]),
  .inl (7, [.inl (.inl 0), .inl (.inl 0), .inl (.inl 0), .inl (.inl 0), .inl (.inl 0)]),
  .inl (7, [.inl (.inl 0), .inl (.inl 0), .inl (.inl 0), .inl (.inl 0), .inl (.inl 0)]),
  .inl (7, [.inl (.inl 0), .inl (.inl 0), .inl (.inl 0), .inl (.inl 0), .inl (.inl 0)]),
  .inl (7, [.inl (.inl 0), .inl (.inl 0), .inl (.inl 0), .inl (.inl 0), .inl (.inl 0)]),
  .inl (9, [.inr (.inr (.inl (.inl 5))), .inl (.inl 0), .inl (.inl 0), .inl (.inl 0), .inl (.inl 0)]),
  .inl (9, [.inr (.inr (.inl (.inl 5))), .inl (.inl 0), .inl (.inl 0), .inl (.inl 0), .inl (.inl 0)]),
  .inl (9, [.inr (.inr (.inl (.inl 5))), .inl (.inl 0), .inl (.inl 0), .inl (.inl 0), .inl (.inl 0)]),
  .inl (9, [.inr (.inr (.inl (.inl 5))), .inl (.inl 0), .inl (.inl 0), .inl (.inl 0), .inl (.inl 0)]),
  .inl (9, [.inr (.inr (.inl (.inl 5))), .inl (.inl 0), .inl (.inl 0), .inl (.inl 0), .inl (.inl 0)]),
  .inl (9, [.inr (.inr (.inl (.inl 5))), .inl (.inl 0), .inl (.inl 0), .inl (.inl 0), .inl (.inl 0)]),
  .inl (9, [.inr (.inr (.inl (.inl 5))), .inl (.inl 0), .inl (.inl 0), .inl (.inl 0), .inl (.inl 0)])]
def ce_S1_2 : List ce_SE := [.inl (9, [.inr (.inr (.inl (.inl 5))), .inl (.inl 0), .inl (.inl 0), .inl (.inl 0), .inl (.inl 0)]),
  .inl (9, [.inr (.inr (.inl (.inl 5))), .inl (.inl 0), .inl (.inl 0), .inl (.inl 0), .inl (.inl 0)]),
  .inl (9, [.inr (.inr (.inl (.inl 5))), .inl (.inl 0), .inl (.inl 0), .inl (.inl 0), .inl (.inl 0)]),
  .inl (9, [.inr (.inr (.inl (.inl 5))), .inl (.inl 0), .inl (.inl 0), .inl (.inl 0), .inl (.inl 0)]),
  .inl (9, [.inr (.inr (.inl (.inl 5))), .inl (.inl 0), .inl (.inl 0), .inl (.inl 0), .inl (.inl 0)]),
  .inl (9, [.inr (.inr (.inl (.inl 5))), .inl (.inl 0), .inl (.inl 0), .inl (.inl 0), .inl (.inl 0)]),
  .inl (9, [.inr (.inr (.inl (.inl 5))), .inl (.inl 0), .inl (.inl 0), .inl (.inl 0), .inl (.inl 0)]),
  .inl (9, [.inr (.inr (.inl (.inl 5))), .inl (.inl 0), .inl (.inl 0), .inl (.inl 0), .inl (.inl 0)]),
  .inl (9, [.inr (.inr (.inl (.inl 5))), .inl (.inl 0), .inl (.inl 0), .inl (.inl 0), .inl (.inl 0)]),
  .inl (9, [.inr (.inr (.inl (.inl 5))), .inl (.inl 0), .inl (.inl 0), .inl (.inl 0), .inl (.inl 0)]),
  .inl (12, [.inr (.inr (.inl (.inl 51))), .inl (.inl 0), .inr (.inl (.inl (0))), .inr (.inl (.inl (0))), .inr (.inl (.inl (0)))]),
  .inr (11, [.inr (.inr (.inl (.inl 52))), .inr (.inr (.inl (.inl 53))), .inr (.inr (.inl (.inl 54))), .inr (.inr (.inl (.inl 55))), .inr (.inr (.inl (.inl 56))), .inr (.inr (.inl (.inl 57))), .inr (.inr (.inl (.inl 58))), .inr (.inr (.inl (.inl 59))), .inr (.inr (.inl (.inl 60))), .inr (.inr (.inl (.inl 61))), .inr (.inr (.inl (.inl 62))), .inr (.inr (.inl (.inl 63))), .inr (.inr (.inl (.inl 64))), .inr (.inr (.inl (.inl 65))), .inr (.inr (.inl (.inl 66))), .inr (.inr (.inl (.inl 67))), .inr (.inr (.inl (.inl 68))), .inr (.inr (.inl (.inl 69))), .inr (.inr (.inl (.inl 70))), .inr (.inr (.inl (.inl 71))), .inr (.inr (.inl (.inl 72))), .inr (.inr (.inl (.inl 73))), .inr (.inr (.inl (.inl 74))), .inr (.inr (.inl (.inl 75))), .inr (.inr (.inl (.inl 76))), .inr (.inr (.inl (.inl 77))), .inr (.inr (.inl (.inl 78))), .inr (.inr (.inl (.inl 79))), .inr (.inr (.inl (.inl 80))), .inr (.inr (.inl (.inl 81))), .inr (.inr (.inl (.inl 82))), .inr (.inr (.inl (.inl 83))), .inr (.inr (.inl (.inl 84))), .inr (.inr (.inl (.inl 85))), .inr (.inr (.inl (.inl 86))), .inr (.inr (.inl (.inl 87))), .inr (.inr (.inl (.inl 88))), .inr (.inr (.inl (.inl 89))), .inr (.inr (.inl (.inl 90))), .inr (.inr (.inl (.inl 91))), .inr (.inr (.inl (.inl 92))), .inr (.inr (.inl (.inl 93))), .inr (.inr (.inl (.inl 94))), .inr (.inr (.inl (.inl 95))), .inr (.inr (.inl (.inl 96))), .inr (.inr (.inl (.inl 97))), .inr (.inr (.inl (.inl 98))), .inr (.inr (.inl (.inl 99))), .inr (.inr (.inl (.inl 100))), .inr (.inr (.inl (.inl 101))), .inr (.inr (.inl (.inl 102))), .inr (.inr (.inl (.inl 103))), .inr (.inr (.inl (.inl 104))), .inr (.inr (.inl (.inl 105))), .inr (.inr (.inl (.inl 106))), .inr (.inr (.inl (.inl 107))), .inr (.inr (.inl (.inl 108))), .inr (.inr (.inl (.inl 109))), .inr (.inr (.inl (.inl 110))), .inr (.inr (.inl (.inl 111)))]),
  .inl (4, [.inl (.inl 0), .inl (.inl 0), .inl (.inl 0), .inl (.inl 0), .inl (.inl 0), .inl (.inl 0), .inl (.inl 0)]),
  .inl (4, [.inl (.inl 0), .inl (.inl 0), .inl (.inl 0), .inl (.inl 0), .inl (.inl 0), .inl (.inl 0), .inl (.inl 0)]),
  .inl (4, [.inl (.inl 0), .inl (.inl 0), .inl (.inl 0), .inl (.inl 0), .inl (.inl 0), .inl (.inl 0), .inl (.inl 0)]),
  .inl (4, [.inl (.inl 0), .inl (.inl 0), .inl (.inl 0), .inl (.inl 0), .inl (.inl 0), .inl (.inl 0), .inl (.inl 0)]),
  .inl (4, [.inl (.inl 0), .inl (.inl 0), .inl (.inl 0), .inl (.inl 0), .inl (.inl 0), .inl (.inl 0), .inl (.inl 0)]),
  .inl (4, [.inl (.inl 0), .inl (.inl 0), .inl (.inl 0), .inl (.inl 0), .inl (.inl 0), .inl (.inl 0), .inl (.inl 0)]),
  .inl (4, [.inl (.inl 0), .inl (.inl 0), .inl (.inl 0), .inl (.inl 0), .inl (.inl 0), .inl (.inl 0), .inl (.inl 0)]),
  .inl (4, [.inl (.inl 0), .inl (.inl 0), .inl (.inl 0), .inl (.inl 0), .inl (.inl 0), .inl (.inl 0), .inl (.inl 0)])]
def ce_S1_3 : List ce_SE := [.inl (4, [.inl (.inl 0), .inl (.inl 0), .inl (.inl 0), .inl (.inl 0), .inl (.inl 0), .inl (.inl 0), .inl (.inl 0)]),
  .inl (4, [.inl (.inl 0), .inl (.inl 0), .inl (.inl 0), .inl (.inl 0), .inl (.inl 0), .inl (.inl 0), .inl (.inl 0)]),
  .inl (4, [.inl (.inl 0), .inl (.inl 0), .inl (.inl 0), .inl (.inl 0), .inl (.inl 0), .inl (.inl 0), .inl (.inl 0)]),
  .inl (4, [.inl (.inl 0), .inl (.inl 0), .inl (.inl 0), .inl (.inl 0), .inl (.inl 0), .inl (.inl 0), .inl (.inl 0)]),
  .inl (4, [.inl (.inl 0), .inl (.inl 0), .inl (.inl 0), .inl (.inl 0), .inl (.inl 0), .inl (.inl 0), .inl (.inl 0)]),
  .inl (4, [.inl (.inl 0), .inl (.inl 0), .inl (.inl 0), .inl (.inl 0), .inl (.inl 0), .inl (.inl 0), .inl (.inl 0)]),
  .inl (4, [.inl (.inl 0), .inl (.inl 0), .inl (.inl 0), .inl (.inl 0), .inl (.inl 0), .inl (.inl 0), .inl (.inl 0)]),
  .inl (4, [.inl (.inl 0), .inl (.inl 0), .inl (.inl 0), .inl (.inl 0), .inl (.inl 0), .inl (.inl 0), .inl (.inl 0)]),
  .inl (4, [.inl (.inl 0), .inl (.inl 0), .inl (.inl 0), .inl (.inl 0), .inl (.inl 0), .inl (.inl 0), .inl (.inl 0)]),
  .inl (4, [.inl (.inl 0), .inl (.inl 0), .inl (.inl 0), .inl (.inl 0), .inl (.inl 0), .inl (.inl 0), .inl (.inl 0)]),
  .inl (4, [.inl (.inl 0), .inl (.inl 0), .inl (.inl 0), .inl (.inl 0), .inl (.inl 0), .inl (.inl 0), .inl (.inl 0)]),
  .inl (4, [.inl (.inl 0), .inl (.inl 0), .inl (.inl 0), .inl (.inl 0), .inl (.inl 0), .inl (.inl 0), .inl (.inl 0)]),
  .inl (4, [.inl (.inl 0), .inl (.inl 0), .inl (.inl 0), .inl (.inl 0), .inl (.inl 0), .inl (.inl 0), .inl (.inl 0)]),
  .inl (4, [.inl (.inl 0), .inl (.inl 0), .inl (.inl 0), .inl (.inl 0), .inl (.inl 0), .inl (.inl 0), .inl (.inl 0)]),
  .inl (4, [.inl (.inl 0), .inl (.inl 0), .inl (.inl 0), .inl (.inl 0), .inl (.inl 0), .inl (.inl 0), .inl (.inl 0)]),
  .inl (4, [.inl (.inl 0), .inl (.inl 0), .inl (.inl 0), .inl (.inl 0), .inl (.inl 0), .inl (.inl 0), .inl (.inl 0)]),
  .inl (4, [.inl (.inl 0), .inl (.inl 0), .inl (.inl 0), .inl (.inl 0), .inl (.inl 0), .inl (.inl 0), .inl (.inl 0)]),
  .inl (4, [.inl (.inl 0), .inl (.inl 0), .inl (.inl 0), .inl (.inl 0), .inl (.inl 0), .inl (.inl 0), .inl (.inl 0)]),
  .inl (4, [.inl (.inl 0), .inl (.inl 0), .inl (.inl 0), .inl (.inl 0), .inl (.inl 0), .inl (.inl 0), .inl (.inl 0)]),
  .inl (4, [.inl (.inl 0), .inl (.inl 0), .inl (.inl 0), .inl (.inl 0), .inl (.inl 0), .inl (.inl 0), .inl (.inl 0)])]
def ce_S1_4 : List ce_SE := [.inl (4, [.inl (.inl 0), .inl (.inl 0), .inl (.inl 0), .inl (.inl 0), .inl (.inl 0), .inl (.inl 0), .inl (.inl 0)]),
  .inl (4, [.inl (.inl 0), .inl (.inl 0), .inl (.inl 0), .inl (.inl 0), .inl (.inl 0), .inl (.inl 0), .inl (.inl 0)]),
  .inl (4, [.inl (.inl 0), .inl (.inl 0), .inl (.inl 0), .inl (.inl 0), .inl (.inl 0), .inl (.inl 0), .inl (.inl 0)]),
  .inl (4, [.inl (.inl 0), .inl (.inl 0), .inl (.inl 0), .inl (.inl 0), .inl (.inl 0), .inl (.inl 0), .inl (.inl 0)]),
  .inl (4, [.inl (.inl 0), .inl (.inl 0), .inl (.inl 0), .inl (.inl 0), .inl (.inl 0), .inl (.inl 0), .inl (.inl 0)]),
  .inl (4, [.inl (.inl 0), .inl (.inl 0), .inl (.inl 0), .inl (.inl 0), .inl (.inl 0), .inl (.inl 0), .inl (.inl 0)]),
  .inl (4, [.inl (.inl 0), .inl (.inl 0), .inl (.inl 0), .inl (.inl 0), .inl (.inl 0), .inl (.inl 0), .inl (.inl 0)]),
  .inl (4, [.inl (.inl 0), .inl (.inl 0), .inl (.inl 0), .inl (.inl 0), .inl (.inl 0), .inl (.inl 0), .inl (.inl 0)]),
  .inl (4, [.inl (.inl 0), .inl (.inl 0), .inl (.inl 0), .inl (.inl 0), .inl (.inl 0), .inl (.inl 0), .inl (.inl 0)]),
  .inl (4, [.inl (.inl 0), .inl (.inl 0), .inl (.inl 0), .inl (.inl 0), .inl (.inl 0), .inl (.inl 0), .inl (.inl 0)]),
  .inl (4, [.inl (.inl 0), .inl (.inl 0), .inl (.inl 0), .inl (.inl 0), .inl (.inl 0), .inl (.inl 0), .inl (.inl 0)]),
  .inl (4, [.inl (.inl 0), .inl (.inl 0), .inl (.inl 0), .inl (.inl 0), .inl (.inl 0), .inl (.inl 0), .inl (.inl 0)]),
  .inl (4, [.inl (.inl 0), .inl (.inl 0), .inl (.inl 0), .inl (.inl 0), .inl (.inl 0), .inl (.inl 0), .inl (.inl 0)]),
  .inl (4, [.inl (.inl 0), .inl (.inl 0), .inl (.inl 0), .inl (.inl 0), .inl (.inl 0), .inl (.inl 0), .inl (.inl 0)]),
  .inl (4, [.inl (.inl 0), .inl (.inl 0), .inl (.inl 0), .inl (.inl 0), .inl (.inl 0), .inl (.inl 0), .inl (.inl 0)]),
  .inl (4, [.inl (.inl 0), .inl (.inl 0), .inl (.inl 0), .inl (.inl 0), .inl (.inl 0), .inl (.inl 0), .inl (.inl 0)]),
  .inl (4, [.inl (.inl 0), .inl (.inl 0), .inl (.inl 0), .inl (.inl 0), .inl (.inl 0), .inl (.inl 0), .inl (.inl 0)]),
  .inl (4, [.inl (.inl 0), .inl (.inl 0), .inl (.inl 0), .inl (.inl 0), .inl (.inl 0), .inl (.inl 0), .inl (.inl 0)]),
  .inl (4, [.inl (.inl 0), .inl (.inl 0), .inl (.inl 0), .inl (.inl 0), .inl (.inl 0), .inl (.inl 0), .inl (.inl 0)]),
  .inl (4, [.inl (.inl 0), .inl (.inl 0), .inl (.inl 0), .inl (.inl 0), .inl (.inl 0), .inl (.inl 0), .inl (.inl 0)])]
def ce_S1_5 : List ce_SE := [.inl (4, [.inl (.inl 0), .inl (.inl 0), .inl (.inl 0), .inl (.inl 0), .inl (.inl 0), .inl (.inl 0), .inl (.inl 0)]),
  .inl (4, [.inl (.inl 0), .inl (.inl 0), .inl (.inl 0), .inl (.inl 0), .inl (.inl 0), .inl (.inl 0), .inl (.inl 0)]),
  .inl (4, [.inl (.inl 0), .inl (.inl 0), .inl (.inl 0), .inl (.inl 0), .inl (.inl 0), .inl (.inl 0), .inl (.inl 0)]),
  .inl (4, [.inl (.inl 0), .inl (.inl 0), .inl (.inl 0), .inl (.inl 0), .inl (.inl 0), .inl (.inl 0), .inl (.inl 0)]),
  .inl (4, [.inl (.inl 0), .inl (.inl 0), .inl (.inl 0), .inl (.inl 0), .inl (.inl 0), .inl (.inl 0), .inl (.inl 0)]),
  .inl (4, [.inl (.inl 0), .inl (.inl 0), .inl (.inl 0), .inl (.inl 0), .inl (.inl 0), .inl (.inl 0), .inl (.inl 0)]),
  .inl (4, [.inl (.inl 0), .inl (.inl 0), .inl (.inl 0), .inl (.inl 0), .inl (.inl 0), .inl (.inl 0), .inl (.inl 0)]),
  .inl (4, [.inl (.inl 0), .inl (.inl 0), .inl (.inl 0), .inl (.inl 0), .inl (.inl 0), .inl (.inl 0), .inl (.inl 0)]),
  .inl (4, [.inl (.inl 0), .inl (.inl 0), .inl (.inl 0), .inl (.inl 0), .inl (.inl 0), .inl (.inl 0), .inl (.inl 0)]),
  .inl (4, [.inl (.inl 0), .inl (.inl 0), .inl (.inl 0), .inl (.inl 0), .inl (.inl 0), .inl (.inl 0), .inl (.inl 0)]),
  .inl (4, [.inl (.inl 0), .inl (.inl 0), .inl (.inl 0), .inl (.inl 0), .inl (.inl 0), .inl (.inl 0), .inl (.inl 0)]),
  .inl (4, [.inl (.inl 0), .inl (.inl 0), .inl (.inl 0), .inl (.inl 0), .inl (.inl 0), .inl (.inl 0), .inl (.inl 0)]),
  .inl (11, [.inr (.inr (.inl (.inl 50))), .inr (.inr (.inl (.inl 113))), .inr (.inr (.inl (.inl 114))), .inl (.inl 0), .inr (.inr (.inl (.inl 115))), .inl (.inl 0), .inl (.inl 0), .inr (.inr (.inl (.inl 116))), .inr (.inr (.inl (.inl 117))), .inr (.inr (.inl (.inl 118))), .inl (.inl 0), .inr (.inr (.inl (.inl 119))), .inl (.inl 0)]),
  .inr (0, List.replicate 25 (.inl (.inl 0))),
  .inr (0, List.replicate 25 (.inl (.inl 0))),
  .inr (0, List.replicate 25 (.inl (.inl 0))),
  .inr (0, List.replicate 25 (.inl (.inl 0))),
  .inr (0, List.replicate 25 (.inl (.inl 0))),
  .inr (0, List.replicate 25 (.inl (.inl 0))),
  .inr (11, [.inr (.inr (.inl (.inl 120))), .inr (.inr (.inl (.inl 121))), .inr (.inr (.inl (.inl 122))), .inr (.inr (.inl (.inl 123))), .inr (.inr (.inl (.inl 124))), .inr (.inr (.inl (.inl 125))), .inr (.inr (.inl (.inl 126))), .inr (.inr (.inl (.inl 127))), .inr (.inr (.inl (.inl 128))), .inr (.inr (.inl (.inl 129))), .inr (.inr (.inl (.inl 130))), .inr (.inr (.inl (.inl 131))), .inr (.inr (.inl (.inl 132))), .inr (.inr (.inl (.inl 133))), .inr (.inr (.inl (.inl 134))), .inr (.inr (.inl (.inl 135))), .inr (.inr (.inl (.inl 136))), .inr (.inr (.inl (.inl 137))), .inr (.inr (.inl (.inl 138))), .inr (.inr (.inl (.inl 139))), .inr (.inr (.inl (.inl 140))), .inr (.inr (.inl (.inl 141))), .inr (.inr (.inl (.inl 142))), .inr (.inr (.inl (.inl 143))), .inr (.inr (.inl (.inl 144))), .inr (.inr (.inl (.inl 145))), .inr (.inr (.inl (.inl 146))), .inr (.inr (.inl (.inl 147))), .inr (.inr (.inl (.inl 148))), .inr (.inr (.inl (.inl 149))), .inr (.inr (.inl (.inl 150))), .inr (.inr (.inl (.inl 151))), .inr (.inr (.inl (.inl 152))), .inr (.inr (.inl (.inl 153))), .inr (.inr (.inl (.inl 154))), .inr (.inr (.inl (.inl 155))), .inr (.inr (.inl (.inl 156))), .inr (.inr (.inl (.inl 157))), .inr (.inr (.inl (.inl 158))), .inr (.inr (.inl (.inl 159))), .inr (.inr (.inl (.inl 160))), .inr (.inr (.inl (.inl 161))), .inr (.inr (.inl (.inl 162))), .inr (.inr (.inl (.inl 163))), .inr (.inr (.inl (.inl 164))), .inr (.inr (.inl (.inl 165))), .inr (.inr (.inl (.inl 166))), .inr (.inr (.inl (.inl 167))), .inr (.inr (.inl (.inl 168))), .inr (.inr (.inl (.inl 169)))])]
def ce_S1_6 : List ce_SE := [.inl (4, [.inl (.inl 0), .inl (.inl 0), .inl (.inl 0), .inl (.inl 0), .inl (.inl 0), .inl (.inl 0), .inl (.inl 0)]),
  .inl (4, [.inl (.inl 0), .inl (.inl 0), .inl (.inl 0), .inl (.inl 0), .inl (.inl 0), .inl (.inl 0), .inl (.inl 0)]),
  .inl (4, [.inl (.inl 0), .inl (.inl 0), .inl (.inl 0), .inl (.inl 0), .inl (.inl 0), .inl (.inl 0), .inl (.inl 0)]),
  .inl (4, [.inl (.inl 0), .inl (.inl 0), .inl (.inl 0), .inl (.inl 0), .inl (.inl 0), .inl (.inl 0), .inl (.inl 0)]),
  .inl (4, [.inl (.inl 0), .inl (.inl 0), .inl (.inl 0), .inl (.inl 0), .inl (.inl 0), .inl (.inl 0), .inl (.inl 0)]),
  .inl (4, [.inl (.inl 0), .inl (.inl 0), .inl (.inl 0), .inl (.inl 0), .inl (.inl 0), .inl (.inl 0), .inl (.inl 0)]),
  .inl (4, [.inl (.inl 0), .inl (.inl 0), .inl (.inl 0), .inl (.inl 0), .inl (.inl 0), .inl (.inl 0), .inl (.inl 0)]),
  .inl (4, [.inl (.inl 0), .inl (.inl 0), .inl (.inl 0), .inl (.inl 0), .inl (.inl 0), .inl (.inl 0), .inl (.inl 0)]),
  .inl (4, [.inl (.inl 0), .inl (.inl 0), .inl (.inl 0), .inl (.inl 0), .inl (.inl 0), .inl (.inl 0), .inl (.inl 0)]),
  .inl (4, [.inl (.inl 0), .inl (.inl 0), .inl (.inl 0), .inl (.inl 0), .inl (.inl 0), .inl (.inl 0), .inl (.inl 0)]),
  .inl (4, [.inl (.inl 0), .inl (.inl 0), .inl (.inl 0), .inl (.inl 0), .inl (.inl 0), .inl (.inl 0), .inl (.inl 0)]),
  .inl (4, [.inl (.inl 0), .inl (.inl 0), .inl (.inl 0), .inl (.inl 0), .inl (.inl 0), .inl (.inl 0), .inl (.inl 0)]),
  .inl (4, [.inl (.inl 0), .inl (.inl 0), .inl (.inl 0), .inl (.inl 0), .inl (.inl 0), .inl (.inl 0), .inl (.inl 0)]),
  .inl (4, [.inl (.inl 0), .inl (.inl 0), .inl (.inl 0), .inl (.inl 0), .inl (.inl 0), .inl (.inl 0), .inl (.inl 0)]),
  .inl (4, [.inl (.inl 0), .inl (.inl 0), .inl (.inl 0), .inl (.inl 0), .inl (.inl 0), .inl (.inl 0), .inl (.inl 0)]),
  .inl (4, [.inl (.inl 0), .inl (.inl 0), .inl (.inl 0), .inl (.inl 0), .inl (.inl 0), .inl (.inl 0), .inl (.inl 0)]),
  .inl (4, [.inl (.inl 0), .inl (.inl 0), .inl (.inl 0), .inl (.inl 0), .inl (.inl 0), .inl (.inl 0), .inl (.inl 0)]),
  .inl (4, [.inl (.inl 0), .inl (.inl 0), .inl (.inl 0), .inl (.inl 0), .inl (.inl 0), .inl (.inl 0), .inl (.inl 0)]),
  .inl (4, [.inl (.inl 0), .inl (.inl 0), .inl (.inl 0), .inl (.inl 0), .inl (.inl 0), .inl (.inl 0), .inl (.inl 0)]),
  .inl (4, [.inl (.inl 0), .inl (.inl 0), .inl (.inl 0), .inl (.inl 0), .inl (.inl 0), .inl (.inl 0), .inl (.inl 0)])]
def ce_S1_7 : List ce_SE := [.inl (4, [.inl (.inl 0), .inl (.inl 0), .inl (.inl 0), .inl (.inl 0), .inl (.inl 0), .inl (.inl 0), .inl (.inl 0)]),
  .inl (4, [.inl (.inl 0), .inl (.inl 0), .inl (.inl 0), .inl (.inl 0), .inl (.inl 0), .inl (.inl 0), .inl (.inl 0)]),
  .inl (4, [.inl (.inl 0), .inl (.inl 0), .inl (.inl 0), .inl (.inl 0), .inl (.inl 0), .inl (.inl 0), .inl (.inl 0)]),
  .inl (4, [.inl (.inl 0), .inl (.inl 0), .inl (.inl 0), .inl (.inl 0), .inl (.inl 0), .inl (.inl 0), .inl (.inl 0)]),
  .inl (4, [.inl (.inl 0), .inl (.inl 0), .inl (.inl 0), .inl (.inl 0), .inl (.inl 0), .inl (.inl 0), .inl (.inl 0)]),
  .inl (4, [.inl (.inl 0), .inl (.inl 0), .inl (.inl 0), .inl (.inl 0), .inl (.inl 0), .inl (.inl 0), .inl (.inl 0)]),
  .inl (4, [.inl (.inl 0), .inl (.inl 0), .inl (.inl 0), .inl (.inl 0), .inl (.inl 0), .inl (.inl 0), .inl (.inl 0)]),
  .inl (4, [.inl (.inl 0), .inl (.inl 0), .inl (.inl 0), .inl (.inl 0), .inl (.inl 0), .inl (.inl 0), .inl (.inl 0)]),
  .inl (4, [.inl (.inl 0), .inl (.inl 0), .inl (.inl 0), .inl (.inl 0), .inl (.inl 0), .inl (.inl 0), .inl (.inl 0)]),
  .inl (4, [.inl (.inl 0), .inl (.inl 0), .inl (.inl 0), .inl (.inl 0), .inl (.inl 0), .inl (.inl 0), .inl (.inl 0)]),
  .inl (4, [.inl (.inl 0), .inl (.inl 0), .inl (.inl 0), .inl (.inl 0), .inl (.inl 0), .inl (.inl 0), .inl (.inl 0)]),
  .inl (4, [.inl (.inl 0), .inl (.inl 0), .inl (.inl 0), .inl (.inl 0), .inl (.inl 0), .inl (.inl 0), .inl (.inl 0)]),
  .inl (4, [.inl (.inl 0), .inl (.inl 0), .inl (.inl 0), .inl (.inl 0), .inl (.inl 0), .inl (.inl 0), .inl (.inl 0)]),
  .inl (4, [.inl (.inl 0), .inl (.inl 0), .inl (.inl 0), .inl (.inl 0), .inl (.inl 0), .inl (.inl 0), .inl (.inl 0)]),
  .inl (4, [.inl (.inl 0), .inl (.inl 0), .inl (.inl 0), .inl (.inl 0), .inl (.inl 0), .inl (.inl 0), .inl (.inl 0)]),
  .inl (4, [.inl (.inl 0), .inl (.inl 0), .inl (.inl 0), .inl (.inl 0), .inl (.inl 0), .inl (.inl 0), .inl (.inl 0)]),
  .inl (4, [.inl (.inl 0), .inl (.inl 0), .inl (.inl 0), .inl (.inl 0), .inl (.inl 0), .inl (.inl 0), .inl (.inl 0)]),
  .inl (4, [.inl (.inl 0), .inl (.inl 0), .inl (.inl 0), .inl (.inl 0), .inl (.inl 0), .inl (.inl 0), .inl (.inl 0)]),
  .inl (4, [.inl (.inl 0), .inl (.inl 0), .inl (.inl 0), .inl (.inl 0), .inl (.inl 0), .inl (.inl 0), .inl (.inl 0)]),
  .inl (4, [.inl (.inl 0), .inl (.inl 0), .inl (.inl 0), .inl (.inl 0), .inl (.inl 0), .inl (.inl 0), .inl (.inl 0)])]
def ce_S1_8 : List ce_SE := [.inl (4, [.inl (.inl 0), .inl (.inl 0), .inl (.inl 0), .inl (.inl 0), .inl (.inl 0), .inl (.inl 0), .inl (.inl 0)]),
  .inl (4, [.inl (.inl 0), .inl (.inl 0), .inl (.inl 0), .inl (.inl 0), .inl (.inl 0), .inl (.inl 0), .inl (.inl 0)]),
  .inl (4, [.inl (.inl 0), .inl (.inl 0), .inl (.inl 0), .inl (.inl 0), .inl (.inl 0), .inl (.inl 0), .inl (.inl 0)]),
  .inl (4, [.inl (.inl 0), .inl (.inl 0), .inl (.inl 0), .inl (.inl 0), .inl (.inl 0), .inl (.inl 0), .inl (.inl 0)]),
  .inl (4, [.inl (.inl 0), .inl (.inl 0), .inl (.inl 0), .inl (.inl 0), .inl (.inl 0), .inl (.inl 0), .inl (.inl 0)]),
  .inl (4, [.inl (.inl 0), .inl (.inl 0), .inl (.inl 0), .inl (.inl 0), .inl (.inl 0), .inl (.inl 0), .inl (.inl 0)]),
  .inl (4, [.inl (.inl 0), .inl (.inl 0), .inl (.inl 0), .inl (.inl 0), .inl (.inl 0), .inl (.inl 0), .inl (.inl 0)]),
  .inl (4, [.inl (.inl 0), .inl (.inl 0), .inl (.inl 0), .inl (.inl 0), .inl (.inl 0), .inl (.inl 0), .inl (.inl 0)]),
  .inl (4, [.inl (.inl 0), .inl (.inl 0), .inl (.inl 0), .inl (.inl 0), .inl (.inl 0), .inl (.inl 0), .inl (.inl 0)]),
  .inl (4, [.inl (.inl 0), .inl (.inl 0), .inl (.inl 0), .inl (.inl 0), .inl (.inl 0), .inl (.inl 0), .inl (.inl 0)]),
  .inl (8, [.inr (.inr (.inl (.inl 171))), .inr (.inr (.inl (.inl 172))), .inr (.inr (.inl (.inl 173))), .inl (.inl 0)]),
  .inr (0, List.replicate 25 (.inl (.inl 0))),
  .inr (0, List.replicate 25 (.inl (.inl 0))),
  .inr (0, List.replicate 25 (.inl (.inl 0))),
  .inl (5, [.inr (.inr (.inl (.inl 175))), .inr (.inr (.inl (.inl 176))), .inr (.inr (.inl (.inl 177))), .inr (.inr (.inl (.inl 178))), .inr (.inr (.inl (.inl 179))), .inl (.inl 0), .inl (.inl 2), .inl (.inl 0)]),
  .inr (0, List.replicate 6 (.inl (.inl 0))),
  .inr (0, List.replicate 6 (.inl (.inl 0))),
  .inr (0, List.replicate 6 (.inl (.inl 0))),
  .inr (0, List.replicate 6 (.inl (.inl 0))),
  .inr (0, List.replicate 6 (.inl (.inl 0)))]
def ce_S1_9 : List ce_SE := [.inr (0, [.inl (.inl 2), .inl (.inl 5), .inl (.inl 9)]),
  .inl (20, [.inl (.inl 0), .inr (.inr (.inl (.inl 182))), .inr (.inr (.inl (.inl 183))), .inr (.inr (.inl (.inr 2))), .inr (.inr (.inl (.inl 184))), .inr (.inr (.inl (.inl 185))), .inr (.inr (.inl (.inl 186))), .inr (.inr (.inl (.inl 187))), .inr (.inr (.inl (.inl 188))), .inl (.inl 2), .inr (.inl (.inl (0))), .inr (.inl (.inl (0))), .inr (.inl (.inl (0))), .inr (.inr (.inl (.inr 2))), .inr (.inr (.inl (.inl 189))), .inr (.inr (.inr .null)), .inl (.inl 0), .inl (.inl 0), .inl (.inl 0), .inr (.inr (.inl (.inl 190)))]),
  .inl (3, [.inl (.inl 0), .inr (.inr (.inl (.inr 1))), .inl (.inl 0)]),
  .inl (3, [.inl (.inl 0), .inr (.inr (.inl (.inr 1))), .inl (.inl 0)]),
  .inl (3, [.inl (.inl 0), .inr (.inr (.inl (.inr 1))), .inl (.inl 0)]),
  .inl (3, [.inl (.inl 0), .inr (.inr (.inl (.inr 1))), .inl (.inl 0)]),
  .inl (3, [.inl (.inl 0), .inr (.inr (.inl (.inr 1))), .inl (.inl 0)]),
  .inl (3, [.inl (.inl 0), .inr (.inr (.inl (.inr 1))), .inl (.inl 0)]),
  .inr (0, [.inl (.inl 2), .inl (.inl 5), .inl (.inl 9)]),
  .inr (0, [.inl (.inl 0), .inl (.inl 0)]),
  .inr (0, []),
  .inr (4, [.inr (.inl (.inl (0)))]),
  .inr (5, [.inr (.inr (.inr (.double 0)))])]
def ce_S1L : ce_L := ([(5, .inl (.inl 0)), (4, .inr (.inr (.inl (.inl 192)))), (3, .inr (.inr (.inl (.inl 191)))), (2, .inr (.inr (.inl (.inl 181)))), (1, .inr (.inr (.inl (.inl 0)))), (0, .inr (.inr (.inl (.inr 0))))], [.inl (.inr (.sum (.arg 0)))])
def ce_S1C : List ce_SE := ce_S1_0 ++ (ce_S1_1 ++ (ce_S1_2 ++ (ce_S1_3 ++ (ce_S1_4 ++ (ce_S1_5 ++ (ce_S1_6 ++ (ce_S1_7 ++ (ce_S1_8 ++ (ce_S1_9)))))))))
def ce_S1G : ce_G := (ce_Fl 6, ce_S1C, 807, 18446)
noncomputable def ce_to (tab : Nat → Option ce_N) (cut n : Nat) : Nat → ce_L → ce_G → Option (ce_L × ce_G) :=
  Nat.rec (motive := fun _ => Nat → ce_L → ce_G → Option (ce_L × ce_G)) (fun _ _ _ => none)
    (fun _ ih pc L G => match Nat.beq pc cut with
      | true => some (L, G)
      | false => match tab pc with
        | none => none
        | some f => ce_nf L G fun L G => match f L G with
          | some ([], [y]) => ih y.1 y.2.1 y.2.2
          | _ => none) n
theorem ce_to_succ (tab : Nat → Option ce_N) (cut n pc : Nat) (L : ce_L) (G : ce_G) : ce_to tab cut (n + 1) pc L G = match Nat.beq pc cut with
      | true => some (L, G)
      | false => match tab pc with
        | none => none
        | some f => ce_nf L G fun L G => match f L G with
          | some ([], [y]) => ce_to tab cut n y.1 y.2.1 y.2.2
          | _ => none := rfl
theorem ce_to_ok {own nm : String} {cc : ByteArray} {nL : Nat} {ret : Option FieldType} {ht : Nat} {hh : Option (List (Nat × Nat × Nat × Nat))} {tab : Nat → Option ce_N} (htab : ∀ pc f, tab pc = some f → ce_OKN own nm cc nL ret ht hh pc f)
    {z : ce_U} {p : Program} {l : Launch} {e : Env} {R : Room} {s : State} {m : MethodId} {args : Array Value} {below : List Frame} {meth : Method} {c : Code} {ad0 : Nat → Nat} {n0 : Nat}
    (hC : ce_CX z p l R s m args meth c own nm cc nL ret ht) (hT : ∀ h, hh = some h → c.exceptionTable.toList = tableOf h) (T : ce_R) {cut : Nat} {L1 : ce_L} {G1 : ce_G} (hgo : ce_WS z p l e R s m args below meth c (ce_Qm z R s args below ad0 n0 T) nL ad0 n0 cut L1 G1) : ∀ (n pc : Nat) (L : ce_L) (G : ce_G), ce_to tab cut n pc L G = some (L1, G1) → ce_WS z p l e R s m args below meth c (ce_Qm z R s args below ad0 n0 T) nL ad0 n0 pc L G
  | 0, pc, L, G, h => by cases h
  | n + 1, pc, L, G, h => by
    rw [ce_to_succ] at h
    split at h
    · rename_i hb
      cases h
      rw [Nat.eq_of_beq_eq_true hb]
      exact hgo
    · split at h
      · cases h
      · rename_i f hf
        rw [ce_nf_eq] at h
        split at h
        · rename_i y hXY
          refine htab pc f hf hC hT T L G [] [y] hXY (fun x hx => nomatch hx) (fun y2 hy => ?_)
          rw [List.mem_singleton.mp hy]
          exact ce_to_ok htab hC hT T hgo n y.1 y.2.1 y.2.2 h
        · cases h
theorem ce_more {z : ce_U} {p : Program} {l : Launch} {e : Env} {R : Room} {s : State} {m : MethodId} {args : Array Value} {below : List Frame} {meth : Method} {c : Code} {Q : State → Prop} {nL : Nat} {ad0 : Nat → Nat} {n0 pc : Nat} {L : ce_L} {F F2 : ce_F} {g : List ce_SE × Nat × Nat} (hF : ce_sat z F2) (h : ce_WS z p l e R s m args below meth c Q nL ad0 n0 pc L (F2, g)) : ce_WS z p l e R s m args below meth c Q nL ad0 n0 pc L (F, g) :=
  fun ad ls H locs kc ks h1 h2 hl hI hv k1 k2 => h ad ls H locs kc ks h1 h2 hl ⟨hI.1, hI.2.1, hI.2.2.1, hF⟩ hv k1 k2
noncomputable def ce_law6 (k : Int) : Bool := ce_chk (ce_go ta_L_law 1000000 45 ce_S1L (ce_Fk k, ce_S1C, 807, 18446))
def ce_dSV : DecidableEq ce_SV := inferInstance
def ce_dVL : DecidableEq (List ce_SV) := @instDecidableEqList _ ce_dSV
def ce_dSE : DecidableEq ce_SE := by
  have h : DecidableEq (List ce_SV) := ce_dVL
  infer_instance
def ce_dSL : DecidableEq (List ce_SE) := @instDecidableEqList _ ce_dSE
def ce_dL : DecidableEq ce_L := by
  have h : DecidableEq ce_SV := ce_dSV
  infer_instance
def ce_dG : DecidableEq ce_G := by
  have h : DecidableEq (List ce_SE) := ce_dSL
  infer_instance
def ce_dO : DecidableEq (Option (ce_L × ce_G)) := by
  have h : DecidableEq ce_L := ce_dL
  have h2 : DecidableEq ce_G := ce_dG
  infer_instance
noncomputable def ce_segb : Bool := @decide (ce_to ta_L_law 45 100000 0 ce_L0 (ce_Fl 6, [], 1000, 20000) = some (ce_S1L, ce_S1G)) (ce_dO _ _)
theorem ce_segt : ce_segb = true := by decide +kernel
theorem ce_seg : ce_to ta_L_law 45 100000 0 ce_L0 (ce_Fl 6, [], 1000, 20000) = some (ce_S1L, ce_S1G) := @of_decide_eq_true _ (ce_dO _ _) ce_segt
theorem ce_lawX {p : Program} {e : Env} {s : State} {m : MethodId} {below : List Frame} {meth : Method} {c : Code} {l : Launch} (hl : l.stackTraces = false) {b L : Nat} {xs : Nat → Int32} (C0 : lw_At p s m meth c b L xs) {z : ce_U} (hK : ce_CK z s) (hzb : ce_b z = s.heap.size) (hz0 : ce_ev z 0 = .ref b) {k : Int} (hF6 : ce_sat z (ce_Fl 6)) (hF : ce_sat z (ce_Fk k)) (hrun : ce_law6 k = true) :
    W p l e room_1 s m #[Value.ref b] below meth c s.heap [] 0 0 (lw_Z below #[Value.ref b] s) (entryFrame m ([Value.ref b] : List Value).toArray 9) := by
  unfold ce_law6 ce_chk at hrun
  split at hrun
  · rename_i S hS
    refine ce_lawQ hl C0 hK hzb hz0 hF6 (S := S) hrun (fun hC ad0 => ?_)
    have key := ce_go_ok (tx_L_law (nm := meth.name)) hC (fun h e9 => by cases e9) S (below := below) (e := e) (ad0 := ad0) (n0 := 0) 1000000 45 ce_S1L (ce_Fk k, ce_S1C, 807, 18446) S hS (fun _ h => h)
    exact ce_to_ok (tx_L_law (nm := meth.name)) hC (fun h e9 => by cases e9) S (ce_more hF key) 100000 0 ce_L0 _ ce_seg
  · cases hrun
