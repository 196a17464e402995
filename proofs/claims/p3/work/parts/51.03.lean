/-! CONTRACTS (by program, wip/p2). -/
-- 12 java/lang/StringLatin1.charAt (('s', 1), ('c', 90))
def kc_r378 : qCt := (12, 3, [(3, [(1, 0)]), (0, [(90, 0)])], [], [], 1, [], 0, [[[((-105), 0), (1, 1)], [(105, 0), ((-1), 1)]]], [], [])
theorem ko_r378 : qCok kc_r378 := sorry
-- 10 java/lang/String.charAt (('s', 0), ('c', 90))
def kc_r379 : qCt := (10, 4, [(3, []), (0, [(90, 0)])], [], [], 1, [], 0, [[[((-105), 0), (1, 1)], [(105, 0), ((-1), 1)]]], [], [])
theorem ko_r379 : qCok kc_r379 := sorry
-- 14 jdk/internal/util/Preconditions.checkIndex (('c', 91), ('c', 121), ('s', 2))
def kc_r380 : qCt := (14, 1, [(0, [(91, 0)]), (0, [(121, 0)]), (3, [(2, 0)])], [], [], 1, [], 0, [[[((-91), 0), (1, 1)], [(91, 0), ((-1), 1)]]], [], [])
theorem ko_r380 : qCok kc_r380 := sorry
-- 13 java/lang/String.checkIndex (('c', 91), ('c', 121))
def kc_r381 : qCt := (13, 2, [(0, [(91, 0)]), (0, [(121, 0)])], [], [], 1, [], 9, [[]], [], [])
theorem ko_r381 : qCok kc_r381 := sorry
-- 12 java/lang/StringLatin1.charAt (('s', 1), ('c', 91))
def kc_r382 : qCt := (12, 3, [(3, [(1, 0)]), (0, [(91, 0)])], [], [], 1, [], 0, [[[((-122), 0), (1, 1)], [(122, 0), ((-1), 1)]]], [], [])
theorem ko_r382 : qCok kc_r382 := sorry
-- 10 java/lang/String.charAt (('s', 0), ('c', 91))
def kc_r383 : qCt := (10, 4, [(3, []), (0, [(91, 0)])], [], [], 1, [], 0, [[[((-122), 0), (1, 1)], [(122, 0), ((-1), 1)]]], [], [])
theorem ko_r383 : qCok kc_r383 := sorry
-- 14 jdk/internal/util/Preconditions.checkIndex (('c', 92), ('c', 121), ('s', 2))
def kc_r384 : qCt := (14, 1, [(0, [(92, 0)]), (0, [(121, 0)]), (3, [(2, 0)])], [], [], 1, [], 0, [[[((-92), 0), (1, 1)], [(92, 0), ((-1), 1)]]], [], [])
theorem ko_r384 : qCok kc_r384 := sorry
-- 13 java/lang/String.checkIndex (('c', 92), ('c', 121))
def kc_r385 : qCt := (13, 2, [(0, [(92, 0)]), (0, [(121, 0)])], [], [], 1, [], 9, [[]], [], [])
theorem ko_r385 : qCok kc_r385 := sorry
-- 12 java/lang/StringLatin1.charAt (('s', 1), ('c', 92))
def kc_r386 : qCt := (12, 3, [(3, [(1, 0)]), (0, [(92, 0)])], [], [], 1, [], 0, [[[((-101), 0), (1, 1)], [(101, 0), ((-1), 1)]]], [], [])
theorem ko_r386 : qCok kc_r386 := sorry
-- 10 java/lang/String.charAt (('s', 0), ('c', 92))
def kc_r387 : qCt := (10, 4, [(3, []), (0, [(92, 0)])], [], [], 1, [], 0, [[[((-101), 0), (1, 1)], [(101, 0), ((-1), 1)]]], [], [])
theorem ko_r387 : qCok kc_r387 := sorry
-- 14 jdk/internal/util/Preconditions.checkIndex (('c', 93), ('c', 121), ('s', 2))
def kc_r388 : qCt := (14, 1, [(0, [(93, 0)]), (0, [(121, 0)]), (3, [(2, 0)])], [], [], 1, [], 0, [[[((-93), 0), (1, 1)], [(93, 0), ((-1), 1)]]], [], [])
theorem ko_r388 : qCok kc_r388 := sorry
-- 13 java/lang/String.checkIndex (('c', 93), ('c', 121))
def kc_r389 : qCt := (13, 2, [(0, [(93, 0)]), (0, [(121, 0)])], [], [], 1, [], 9, [[]], [], [])
theorem ko_r389 : qCok kc_r389 := sorry
-- 12 java/lang/StringLatin1.charAt (('s', 1), ('c', 93))
def kc_r390 : qCt := (12, 3, [(3, [(1, 0)]), (0, [(93, 0)])], [], [], 1, [], 0, [[[((-32), 0), (1, 1)], [(32, 0), ((-1), 1)]]], [], [])
theorem ko_r390 : qCok kc_r390 := sorry
-- 10 java/lang/String.charAt (('s', 0), ('c', 93))
def kc_r391 : qCt := (10, 4, [(3, []), (0, [(93, 0)])], [], [], 1, [], 0, [[[((-32), 0), (1, 1)], [(32, 0), ((-1), 1)]]], [], [])
theorem ko_r391 : qCok kc_r391 := sorry
-- 14 jdk/internal/util/Preconditions.checkIndex (('c', 94), ('c', 121), ('s', 2))
def kc_r392 : qCt := (14, 1, [(0, [(94, 0)]), (0, [(121, 0)]), (3, [(2, 0)])], [], [], 1, [], 0, [[[((-94), 0), (1, 1)], [(94, 0), ((-1), 1)]]], [], [])
theorem ko_r392 : qCok kc_r392 := sorry
-- 13 java/lang/String.checkIndex (('c', 94), ('c', 121))
def kc_r393 : qCt := (13, 2, [(0, [(94, 0)]), (0, [(121, 0)])], [], [], 1, [], 9, [[]], [], [])
theorem ko_r393 : qCok kc_r393 := sorry
-- 12 java/lang/StringLatin1.charAt (('s', 1), ('c', 94))
def kc_r394 : qCt := (12, 3, [(3, [(1, 0)]), (0, [(94, 0)])], [], [], 1, [], 0, [[[((-104), 0), (1, 1)], [(104, 0), ((-1), 1)]]], [], [])
theorem ko_r394 : qCok kc_r394 := sorry
-- 10 java/lang/String.charAt (('s', 0), ('c', 94))
def kc_r395 : qCt := (10, 4, [(3, []), (0, [(94, 0)])], [], [], 1, [], 0, [[[((-104), 0), (1, 1)], [(104, 0), ((-1), 1)]]], [], [])
theorem ko_r395 : qCok kc_r395 := sorry
-- 14 jdk/internal/util/Preconditions.checkIndex (('c', 95), ('c', 121), ('s', 2))
def kc_r396 : qCt := (14, 1, [(0, [(95, 0)]), (0, [(121, 0)]), (3, [(2, 0)])], [], [], 1, [], 0, [[[((-95), 0), (1, 1)], [(95, 0), ((-1), 1)]]], [], [])
theorem ko_r396 : qCok kc_r396 := sorry
-- 13 java/lang/String.checkIndex (('c', 95), ('c', 121))
def kc_r397 : qCt := (13, 2, [(0, [(95, 0)]), (0, [(121, 0)])], [], [], 1, [], 9, [[]], [], [])
theorem ko_r397 : qCok kc_r397 := sorry
-- 12 java/lang/StringLatin1.charAt (('s', 1), ('c', 95))
def kc_r398 : qCt := (12, 3, [(3, [(1, 0)]), (0, [(95, 0)])], [], [], 1, [], 0, [[[((-101), 0), (1, 1)], [(101, 0), ((-1), 1)]]], [], [])
theorem ko_r398 : qCok kc_r398 := sorry
-- 10 java/lang/String.charAt (('s', 0), ('c', 95))
def kc_r399 : qCt := (10, 4, [(3, []), (0, [(95, 0)])], [], [], 1, [], 0, [[[((-101), 0), (1, 1)], [(101, 0), ((-1), 1)]]], [], [])
theorem ko_r399 : qCok kc_r399 := sorry
-- 14 jdk/internal/util/Preconditions.checkIndex (('c', 96), ('c', 121), ('s', 2))
def kc_r400 : qCt := (14, 1, [(0, [(96, 0)]), (0, [(121, 0)]), (3, [(2, 0)])], [], [], 1, [], 0, [[[((-96), 0), (1, 1)], [(96, 0), ((-1), 1)]]], [], [])
theorem ko_r400 : qCok kc_r400 := sorry
-- 13 java/lang/String.checkIndex (('c', 96), ('c', 121))
def kc_r401 : qCt := (13, 2, [(0, [(96, 0)]), (0, [(121, 0)])], [], [], 1, [], 9, [[]], [], [])
theorem ko_r401 : qCok kc_r401 := sorry
-- 12 java/lang/StringLatin1.charAt (('s', 1), ('c', 96))
def kc_r402 : qCt := (12, 3, [(3, [(1, 0)]), (0, [(96, 0)])], [], [], 1, [], 0, [[[((-105), 0), (1, 1)], [(105, 0), ((-1), 1)]]], [], [])
theorem ko_r402 : qCok kc_r402 := sorry
-- 10 java/lang/String.charAt (('s', 0), ('c', 96))
def kc_r403 : qCt := (10, 4, [(3, []), (0, [(96, 0)])], [], [], 1, [], 0, [[[((-105), 0), (1, 1)], [(105, 0), ((-1), 1)]]], [], [])
theorem ko_r403 : qCok kc_r403 := sorry
-- 14 jdk/internal/util/Preconditions.checkIndex (('c', 97), ('c', 121), ('s', 2))
def kc_r404 : qCt := (14, 1, [(0, [(97, 0)]), (0, [(121, 0)]), (3, [(2, 0)])], [], [], 1, [], 0, [[[((-97), 0), (1, 1)], [(97, 0), ((-1), 1)]]], [], [])
theorem ko_r404 : qCok kc_r404 := sorry
-- 13 java/lang/String.checkIndex (('c', 97), ('c', 121))
def kc_r405 : qCt := (13, 2, [(0, [(97, 0)]), (0, [(121, 0)])], [], [], 1, [], 9, [[]], [], [])
theorem ko_r405 : qCok kc_r405 := sorry
-- 12 java/lang/StringLatin1.charAt (('s', 1), ('c', 97))
def kc_r406 : qCt := (12, 3, [(3, [(1, 0)]), (0, [(97, 0)])], [], [], 1, [], 0, [[[((-103), 0), (1, 1)], [(103, 0), ((-1), 1)]]], [], [])
theorem ko_r406 : qCok kc_r406 := sorry
-- 10 java/lang/String.charAt (('s', 0), ('c', 97))
def kc_r407 : qCt := (10, 4, [(3, []), (0, [(97, 0)])], [], [], 1, [], 0, [[[((-103), 0), (1, 1)], [(103, 0), ((-1), 1)]]], [], [])
theorem ko_r407 : qCok kc_r407 := sorry
-- 14 jdk/internal/util/Preconditions.checkIndex (('c', 98), ('c', 121), ('s', 2))
def kc_r408 : qCt := (14, 1, [(0, [(98, 0)]), (0, [(121, 0)]), (3, [(2, 0)])], [], [], 1, [], 0, [[[((-98), 0), (1, 1)], [(98, 0), ((-1), 1)]]], [], [])
theorem ko_r408 : qCok kc_r408 := sorry
-- 13 java/lang/String.checkIndex (('c', 98), ('c', 121))
def kc_r409 : qCt := (13, 2, [(0, [(98, 0)]), (0, [(121, 0)])], [], [], 1, [], 9, [[]], [], [])
theorem ko_r409 : qCok kc_r409 := sorry
-- 12 java/lang/StringLatin1.charAt (('s', 1), ('c', 98))
def kc_r410 : qCt := (12, 3, [(3, [(1, 0)]), (0, [(98, 0)])], [], [], 1, [], 0, [[[((-104), 0), (1, 1)], [(104, 0), ((-1), 1)]]], [], [])
theorem ko_r410 : qCok kc_r410 := sorry
-- 10 java/lang/String.charAt (('s', 0), ('c', 98))
def kc_r411 : qCt := (10, 4, [(3, []), (0, [(98, 0)])], [], [], 1, [], 0, [[[((-104), 0), (1, 1)], [(104, 0), ((-1), 1)]]], [], [])
theorem ko_r411 : qCok kc_r411 := sorry
-- 14 jdk/internal/util/Preconditions.checkIndex (('c', 99), ('c', 121), ('s', 2))
def kc_r412 : qCt := (14, 1, [(0, [(99, 0)]), (0, [(121, 0)]), (3, [(2, 0)])], [], [], 1, [], 0, [[[((-99), 0), (1, 1)], [(99, 0), ((-1), 1)]]], [], [])
theorem ko_r412 : qCok kc_r412 := sorry
-- 13 java/lang/String.checkIndex (('c', 99), ('c', 121))
def kc_r413 : qCt := (13, 2, [(0, [(99, 0)]), (0, [(121, 0)])], [], [], 1, [], 9, [[]], [], [])
theorem ko_r413 : qCok kc_r413 := sorry
-- 12 java/lang/StringLatin1.charAt (('s', 1), ('c', 99))
def kc_r414 : qCt := (12, 3, [(3, [(1, 0)]), (0, [(99, 0)])], [], [], 1, [], 0, [[[((-116), 0), (1, 1)], [(116, 0), ((-1), 1)]]], [], [])
theorem ko_r414 : qCok kc_r414 := sorry
-- 10 java/lang/String.charAt (('s', 0), ('c', 99))
def kc_r415 : qCt := (10, 4, [(3, []), (0, [(99, 0)])], [], [], 1, [], 0, [[[((-116), 0), (1, 1)], [(116, 0), ((-1), 1)]]], [], [])
theorem ko_r415 : qCok kc_r415 := sorry
-- 14 jdk/internal/util/Preconditions.checkIndex (('c', 100), ('c', 121), ('s', 2))
def kc_r416 : qCt := (14, 1, [(0, [(100, 0)]), (0, [(121, 0)]), (3, [(2, 0)])], [], [], 1, [], 0, [[[((-100), 0), (1, 1)], [(100, 0), ((-1), 1)]]], [], [])
theorem ko_r416 : qCok kc_r416 := sorry
-- 13 java/lang/String.checkIndex (('c', 100), ('c', 121))
def kc_r417 : qCt := (13, 2, [(0, [(100, 0)]), (0, [(121, 0)])], [], [], 1, [], 9, [[]], [], [])
theorem ko_r417 : qCok kc_r417 := sorry
-- 12 java/lang/StringLatin1.charAt (('s', 1), ('c', 100))
def kc_r418 : qCt := (12, 3, [(3, [(1, 0)]), (0, [(100, 0)])], [], [], 1, [], 0, [[[((-32), 0), (1, 1)], [(32, 0), ((-1), 1)]]], [], [])
theorem ko_r418 : qCok kc_r418 := sorry
-- 10 java/lang/String.charAt (('s', 0), ('c', 100))
def kc_r419 : qCt := (10, 4, [(3, []), (0, [(100, 0)])], [], [], 1, [], 0, [[[((-32), 0), (1, 1)], [(32, 0), ((-1), 1)]]], [], [])
theorem ko_r419 : qCok kc_r419 := sorry
-- 14 jdk/internal/util/Preconditions.checkIndex (('c', 101), ('c', 121), ('s', 2))
def kc_r420 : qCt := (14, 1, [(0, [(101, 0)]), (0, [(121, 0)]), (3, [(2, 0)])], [], [], 1, [], 0, [[[((-101), 0), (1, 1)], [(101, 0), ((-1), 1)]]], [], [])
theorem ko_r420 : qCok kc_r420 := sorry
-- 13 java/lang/String.checkIndex (('c', 101), ('c', 121))
def kc_r421 : qCt := (13, 2, [(0, [(101, 0)]), (0, [(121, 0)])], [], [], 1, [], 9, [[]], [], [])
theorem ko_r421 : qCok kc_r421 := sorry
-- 12 java/lang/StringLatin1.charAt (('s', 1), ('c', 101))
def kc_r422 : qCt := (12, 3, [(3, [(1, 0)]), (0, [(101, 0)])], [], [], 1, [], 0, [[[((-97), 0), (1, 1)], [(97, 0), ((-1), 1)]]], [], [])
theorem ko_r422 : qCok kc_r422 := sorry
-- 10 java/lang/String.charAt (('s', 0), ('c', 101))
def kc_r423 : qCt := (10, 4, [(3, []), (0, [(101, 0)])], [], [], 1, [], 0, [[[((-97), 0), (1, 1)], [(97, 0), ((-1), 1)]]], [], [])
theorem ko_r423 : qCok kc_r423 := sorry
-- 14 jdk/internal/util/Preconditions.checkIndex (('c', 102), ('c', 121), ('s', 2))
def kc_r424 : qCt := (14, 1, [(0, [(102, 0)]), (0, [(121, 0)]), (3, [(2, 0)])], [], [], 1, [], 0, [[[((-102), 0), (1, 1)], [(102, 0), ((-1), 1)]]], [], [])
theorem ko_r424 : qCok kc_r424 := sorry
-- 13 java/lang/String.checkIndex (('c', 102), ('c', 121))
def kc_r425 : qCt := (13, 2, [(0, [(102, 0)]), (0, [(121, 0)])], [], [], 1, [], 9, [[]], [], [])
theorem ko_r425 : qCok kc_r425 := sorry
-- 12 java/lang/StringLatin1.charAt (('s', 1), ('c', 102))
def kc_r426 : qCt := (12, 3, [(3, [(1, 0)]), (0, [(102, 0)])], [], [], 1, [], 0, [[[((-105), 0), (1, 1)], [(105, 0), ((-1), 1)]]], [], [])
theorem ko_r426 : qCok kc_r426 := sorry
-- 10 java/lang/String.charAt (('s', 0), ('c', 102))
def kc_r427 : qCt := (10, 4, [(3, []), (0, [(102, 0)])], [], [], 1, [], 0, [[[((-105), 0), (1, 1)], [(105, 0), ((-1), 1)]]], [], [])
theorem ko_r427 : qCok kc_r427 := sorry
-- 14 jdk/internal/util/Preconditions.checkIndex (('c', 103), ('c', 121), ('s', 2))
def kc_r428 : qCt := (14, 1, [(0, [(103, 0)]), (0, [(121, 0)]), (3, [(2, 0)])], [], [], 1, [], 0, [[[((-103), 0), (1, 1)], [(103, 0), ((-1), 1)]]], [], [])
theorem ko_r428 : qCok kc_r428 := sorry
-- 13 java/lang/String.checkIndex (('c', 103), ('c', 121))
def kc_r429 : qCt := (13, 2, [(0, [(103, 0)]), (0, [(121, 0)])], [], [], 1, [], 9, [[]], [], [])
theorem ko_r429 : qCok kc_r429 := sorry
-- 12 java/lang/StringLatin1.charAt (('s', 1), ('c', 103))
def kc_r430 : qCt := (12, 3, [(3, [(1, 0)]), (0, [(103, 0)])], [], [], 1, [], 0, [[[((-114), 0), (1, 1)], [(114, 0), ((-1), 1)]]], [], [])
theorem ko_r430 : qCok kc_r430 := sorry
-- 10 java/lang/String.charAt (('s', 0), ('c', 103))
def kc_r431 : qCt := (10, 4, [(3, []), (0, [(103, 0)])], [], [], 1, [], 0, [[[((-114), 0), (1, 1)], [(114, 0), ((-1), 1)]]], [], [])
theorem ko_r431 : qCok kc_r431 := sorry
-- 14 jdk/internal/util/Preconditions.checkIndex (('c', 104), ('c', 121), ('s', 2))
def kc_r432 : qCt := (14, 1, [(0, [(104, 0)]), (0, [(121, 0)]), (3, [(2, 0)])], [], [], 1, [], 0, [[[((-104), 0), (1, 1)], [(104, 0), ((-1), 1)]]], [], [])
theorem ko_r432 : qCok kc_r432 := sorry
-- 13 java/lang/String.checkIndex (('c', 104), ('c', 121))
def kc_r433 : qCt := (13, 2, [(0, [(104, 0)]), (0, [(121, 0)])], [], [], 1, [], 9, [[]], [], [])
theorem ko_r433 : qCok kc_r433 := sorry
-- 12 java/lang/StringLatin1.charAt (('s', 1), ('c', 104))
def kc_r434 : qCt := (12, 3, [(3, [(1, 0)]), (0, [(104, 0)])], [], [], 1, [], 0, [[[((-32), 0), (1, 1)], [(32, 0), ((-1), 1)]]], [], [])
theorem ko_r434 : qCok kc_r434 := sorry
-- 10 java/lang/String.charAt (('s', 0), ('c', 104))
def kc_r435 : qCt := (10, 4, [(3, []), (0, [(104, 0)])], [], [], 1, [], 0, [[[((-32), 0), (1, 1)], [(32, 0), ((-1), 1)]]], [], [])
theorem ko_r435 : qCok kc_r435 := sorry
-- 14 jdk/internal/util/Preconditions.checkIndex (('c', 105), ('c', 121), ('s', 2))
def kc_r436 : qCt := (14, 1, [(0, [(105, 0)]), (0, [(121, 0)]), (3, [(2, 0)])], [], [], 1, [], 0, [[[((-105), 0), (1, 1)], [(105, 0), ((-1), 1)]]], [], [])
theorem ko_r436 : qCok kc_r436 := sorry
-- 13 java/lang/String.checkIndex (('c', 105), ('c', 121))
def kc_r437 : qCt := (13, 2, [(0, [(105, 0)]), (0, [(121, 0)])], [], [], 1, [], 9, [[]], [], [])
theorem ko_r437 : qCok kc_r437 := sorry
-- 12 java/lang/StringLatin1.charAt (('s', 1), ('c', 105))
def kc_r438 : qCt := (12, 3, [(3, [(1, 0)]), (0, [(105, 0)])], [], [], 1, [], 0, [[[((-104), 0), (1, 1)], [(104, 0), ((-1), 1)]]], [], [])
theorem ko_r438 : qCok kc_r438 := sorry
-- 10 java/lang/String.charAt (('s', 0), ('c', 105))
def kc_r439 : qCt := (10, 4, [(3, []), (0, [(105, 0)])], [], [], 1, [], 0, [[[((-104), 0), (1, 1)], [(104, 0), ((-1), 1)]]], [], [])
theorem ko_r439 : qCok kc_r439 := sorry
-- 14 jdk/internal/util/Preconditions.checkIndex (('c', 106), ('c', 121), ('s', 2))
def kc_r440 : qCt := (14, 1, [(0, [(106, 0)]), (0, [(121, 0)]), (3, [(2, 0)])], [], [], 1, [], 0, [[[((-106), 0), (1, 1)], [(106, 0), ((-1), 1)]]], [], [])
theorem ko_r440 : qCok kc_r440 := sorry
-- 13 java/lang/String.checkIndex (('c', 106), ('c', 121))
def kc_r441 : qCt := (13, 2, [(0, [(106, 0)]), (0, [(121, 0)])], [], [], 1, [], 9, [[]], [], [])
theorem ko_r441 : qCok kc_r441 := sorry
-- 12 java/lang/StringLatin1.charAt (('s', 1), ('c', 106))
def kc_r442 : qCt := (12, 3, [(3, [(1, 0)]), (0, [(106, 0)])], [], [], 1, [], 0, [[[((-111), 0), (1, 1)], [(111, 0), ((-1), 1)]]], [], [])
theorem ko_r442 : qCok kc_r442 := sorry
-- 10 java/lang/String.charAt (('s', 0), ('c', 106))
def kc_r443 : qCt := (10, 4, [(3, []), (0, [(106, 0)])], [], [], 1, [], 0, [[[((-111), 0), (1, 1)], [(111, 0), ((-1), 1)]]], [], [])
theorem ko_r443 : qCok kc_r443 := sorry
-- 14 jdk/internal/util/Preconditions.checkIndex (('c', 107), ('c', 121), ('s', 2))
def kc_r444 : qCt := (14, 1, [(0, [(107, 0)]), (0, [(121, 0)]), (3, [(2, 0)])], [], [], 1, [], 0, [[[((-107), 0), (1, 1)], [(107, 0), ((-1), 1)]]], [], [])
theorem ko_r444 : qCok kc_r444 := sorry
-- 13 java/lang/String.checkIndex (('c', 107), ('c', 121))
def kc_r445 : qCt := (13, 2, [(0, [(107, 0)]), (0, [(121, 0)])], [], [], 1, [], 9, [[]], [], [])
theorem ko_r445 : qCok kc_r445 := sorry
-- 12 java/lang/StringLatin1.charAt (('s', 1), ('c', 107))
def kc_r446 : qCt := (12, 3, [(3, [(1, 0)]), (0, [(107, 0)])], [], [], 1, [], 0, [[[((-117), 0), (1, 1)], [(117, 0), ((-1), 1)]]], [], [])
theorem ko_r446 : qCok kc_r446 := sorry
-- 10 java/lang/String.charAt (('s', 0), ('c', 107))
def kc_r447 : qCt := (10, 4, [(3, []), (0, [(107, 0)])], [], [], 1, [], 0, [[[((-117), 0), (1, 1)], [(117, 0), ((-1), 1)]]], [], [])
theorem ko_r447 : qCok kc_r447 := sorry
-- 14 jdk/internal/util/Preconditions.checkIndex (('c', 108), ('c', 121), ('s', 2))
def kc_r448 : qCt := (14, 1, [(0, [(108, 0)]), (0, [(121, 0)]), (3, [(2, 0)])], [], [], 1, [], 0, [[[((-108), 0), (1, 1)], [(108, 0), ((-1), 1)]]], [], [])
theorem ko_r448 : qCok kc_r448 := sorry
-- 13 java/lang/String.checkIndex (('c', 108), ('c', 121))
def kc_r449 : qCt := (13, 2, [(0, [(108, 0)]), (0, [(121, 0)])], [], [], 1, [], 9, [[]], [], [])
theorem ko_r449 : qCok kc_r449 := sorry
-- 12 java/lang/StringLatin1.charAt (('s', 1), ('c', 108))
def kc_r450 : qCt := (12, 3, [(3, [(1, 0)]), (0, [(108, 0)])], [], [], 1, [], 0, [[[((-114), 0), (1, 1)], [(114, 0), ((-1), 1)]]], [], [])
theorem ko_r450 : qCok kc_r450 := sorry
-- 10 java/lang/String.charAt (('s', 0), ('c', 108))
def kc_r451 : qCt := (10, 4, [(3, []), (0, [(108, 0)])], [], [], 1, [], 0, [[[((-114), 0), (1, 1)], [(114, 0), ((-1), 1)]]], [], [])
theorem ko_r451 : qCok kc_r451 := sorry
-- 14 jdk/internal/util/Preconditions.checkIndex (('c', 109), ('c', 121), ('s', 2))
def kc_r452 : qCt := (14, 1, [(0, [(109, 0)]), (0, [(121, 0)]), (3, [(2, 0)])], [], [], 1, [], 0, [[[((-109), 0), (1, 1)], [(109, 0), ((-1), 1)]]], [], [])
theorem ko_r452 : qCok kc_r452 := sorry
-- 13 java/lang/String.checkIndex (('c', 109), ('c', 121))
def kc_r453 : qCt := (13, 2, [(0, [(109, 0)]), (0, [(121, 0)])], [], [], 1, [], 9, [[]], [], [])
theorem ko_r453 : qCok kc_r453 := sorry
-- 12 java/lang/StringLatin1.charAt (('s', 1), ('c', 109))
def kc_r454 : qCt := (12, 3, [(3, [(1, 0)]), (0, [(109, 0)])], [], [], 1, [], 0, [[[((-32), 0), (1, 1)], [(32, 0), ((-1), 1)]]], [], [])
theorem ko_r454 : qCok kc_r454 := sorry
-- 10 java/lang/String.charAt (('s', 0), ('c', 109))
def kc_r455 : qCt := (10, 4, [(3, []), (0, [(109, 0)])], [], [], 1, [], 0, [[[((-32), 0), (1, 1)], [(32, 0), ((-1), 1)]]], [], [])
theorem ko_r455 : qCok kc_r455 := sorry
-- 14 jdk/internal/util/Preconditions.checkIndex (('c', 110), ('c', 121), ('s', 2))
def kc_r456 : qCt := (14, 1, [(0, [(110, 0)]), (0, [(121, 0)]), (3, [(2, 0)])], [], [], 1, [], 0, [[[((-110), 0), (1, 1)], [(110, 0), ((-1), 1)]]], [], [])
theorem ko_r456 : qCok kc_r456 := sorry
-- 13 java/lang/String.checkIndex (('c', 110), ('c', 121))
def kc_r457 : qCt := (13, 2, [(0, [(110, 0)]), (0, [(121, 0)])], [], [], 1, [], 9, [[]], [], [])
theorem ko_r457 : qCok kc_r457 := sorry
-- 12 java/lang/StringLatin1.charAt (('s', 1), ('c', 110))
def kc_r458 : qCt := (12, 3, [(3, [(1, 0)]), (0, [(110, 0)])], [], [], 1, [], 0, [[[((-103), 0), (1, 1)], [(103, 0), ((-1), 1)]]], [], [])
theorem ko_r458 : qCok kc_r458 := sorry
-- 10 java/lang/String.charAt (('s', 0), ('c', 110))
def kc_r459 : qCt := (10, 4, [(3, []), (0, [(110, 0)])], [], [], 1, [], 0, [[[((-103), 0), (1, 1)], [(103, 0), ((-1), 1)]]], [], [])
theorem ko_r459 : qCok kc_r459 := sorry
-- 14 jdk/internal/util/Preconditions.checkIndex (('c', 111), ('c', 121), ('s', 2))
def kc_r460 : qCt := (14, 1, [(0, [(111, 0)]), (0, [(121, 0)]), (3, [(2, 0)])], [], [], 1, [], 0, [[[((-111), 0), (1, 1)], [(111, 0), ((-1), 1)]]], [], [])
theorem ko_r460 : qCok kc_r460 := sorry
-- 13 java/lang/String.checkIndex (('c', 111), ('c', 121))
def kc_r461 : qCt := (13, 2, [(0, [(111, 0)]), (0, [(121, 0)])], [], [], 1, [], 9, [[]], [], [])
theorem ko_r461 : qCok kc_r461 := sorry
-- 12 java/lang/StringLatin1.charAt (('s', 1), ('c', 111))
def kc_r462 : qCt := (12, 3, [(3, [(1, 0)]), (0, [(111, 0)])], [], [], 1, [], 0, [[[((-117), 0), (1, 1)], [(117, 0), ((-1), 1)]]], [], [])
theorem ko_r462 : qCok kc_r462 := sorry
-- 10 java/lang/String.charAt (('s', 0), ('c', 111))
def kc_r463 : qCt := (10, 4, [(3, []), (0, [(111, 0)])], [], [], 1, [], 0, [[[((-117), 0), (1, 1)], [(117, 0), ((-1), 1)]]], [], [])
theorem ko_r463 : qCok kc_r463 := sorry
-- 14 jdk/internal/util/Preconditions.checkIndex (('c', 112), ('c', 121), ('s', 2))
def kc_r464 : qCt := (14, 1, [(0, [(112, 0)]), (0, [(121, 0)]), (3, [(2, 0)])], [], [], 1, [], 0, [[[((-112), 0), (1, 1)], [(112, 0), ((-1), 1)]]], [], [])
theorem ko_r464 : qCok kc_r464 := sorry
-- 13 java/lang/String.checkIndex (('c', 112), ('c', 121))
def kc_r465 : qCt := (13, 2, [(0, [(112, 0)]), (0, [(121, 0)])], [], [], 1, [], 9, [[]], [], [])
theorem ko_r465 : qCok kc_r465 := sorry
-- 12 java/lang/StringLatin1.charAt (('s', 1), ('c', 112))
def kc_r466 : qCt := (12, 3, [(3, [(1, 0)]), (0, [(112, 0)])], [], [], 1, [], 0, [[[((-115), 0), (1, 1)], [(115, 0), ((-1), 1)]]], [], [])
theorem ko_r466 : qCok kc_r466 := sorry
-- 10 java/lang/String.charAt (('s', 0), ('c', 112))
def kc_r467 : qCt := (10, 4, [(3, []), (0, [(112, 0)])], [], [], 1, [], 0, [[[((-115), 0), (1, 1)], [(115, 0), ((-1), 1)]]], [], [])
theorem ko_r467 : qCok kc_r467 := sorry
-- 14 jdk/internal/util/Preconditions.checkIndex (('c', 113), ('c', 121), ('s', 2))
def kc_r468 : qCt := (14, 1, [(0, [(113, 0)]), (0, [(121, 0)]), (3, [(2, 0)])], [], [], 1, [], 0, [[[((-113), 0), (1, 1)], [(113, 0), ((-1), 1)]]], [], [])
theorem ko_r468 : qCok kc_r468 := sorry
-- 13 java/lang/String.checkIndex (('c', 113), ('c', 121))
def kc_r469 : qCt := (13, 2, [(0, [(113, 0)]), (0, [(121, 0)])], [], [], 1, [], 9, [[]], [], [])
theorem ko_r469 : qCok kc_r469 := sorry
-- 12 java/lang/StringLatin1.charAt (('s', 1), ('c', 113))
def kc_r470 : qCt := (12, 3, [(3, [(1, 0)]), (0, [(113, 0)])], [], [], 1, [], 0, [[[((-116), 0), (1, 1)], [(116, 0), ((-1), 1)]]], [], [])
theorem ko_r470 : qCok kc_r470 := sorry
-- 10 java/lang/String.charAt (('s', 0), ('c', 113))
def kc_r471 : qCt := (10, 4, [(3, []), (0, [(113, 0)])], [], [], 1, [], 0, [[[((-116), 0), (1, 1)], [(116, 0), ((-1), 1)]]], [], [])
theorem ko_r471 : qCok kc_r471 := sorry
-- 14 jdk/internal/util/Preconditions.checkIndex (('c', 114), ('c', 121), ('s', 2))
def kc_r472 : qCt := (14, 1, [(0, [(114, 0)]), (0, [(121, 0)]), (3, [(2, 0)])], [], [], 1, [], 0, [[[((-114), 0), (1, 1)], [(114, 0), ((-1), 1)]]], [], [])
theorem ko_r472 : qCok kc_r472 := sorry
-- 13 java/lang/String.checkIndex (('c', 114), ('c', 121))
def kc_r473 : qCt := (13, 2, [(0, [(114, 0)]), (0, [(121, 0)])], [], [], 1, [], 9, [[]], [], [])
theorem ko_r473 : qCok kc_r473 := sorry
-- 12 java/lang/StringLatin1.charAt (('s', 1), ('c', 114))
def kc_r474 : qCt := (12, 3, [(3, [(1, 0)]), (0, [(114, 0)])], [], [], 1, [], 0, [[[((-32), 0), (1, 1)], [(32, 0), ((-1), 1)]]], [], [])
theorem ko_r474 : qCok kc_r474 := sorry
-- 10 java/lang/String.charAt (('s', 0), ('c', 114))
def kc_r475 : qCt := (10, 4, [(3, []), (0, [(114, 0)])], [], [], 1, [], 0, [[[((-32), 0), (1, 1)], [(32, 0), ((-1), 1)]]], [], [])
theorem ko_r475 : qCok kc_r475 := sorry
-- 14 jdk/internal/util/Preconditions.checkIndex (('c', 115), ('c', 121), ('s', 2))
def kc_r476 : qCt := (14, 1, [(0, [(115, 0)]), (0, [(121, 0)]), (3, [(2, 0)])], [], [], 1, [], 0, [[[((-115), 0), (1, 1)], [(115, 0), ((-1), 1)]]], [], [])
theorem ko_r476 : qCok kc_r476 := sorry
-- 13 java/lang/String.checkIndex (('c', 115), ('c', 121))
def kc_r477 : qCt := (13, 2, [(0, [(115, 0)]), (0, [(121, 0)])], [], [], 1, [], 9, [[]], [], [])
theorem ko_r477 : qCok kc_r477 := sorry
-- 12 java/lang/StringLatin1.charAt (('s', 1), ('c', 115))
def kc_r478 : qCt := (12, 3, [(3, [(1, 0)]), (0, [(115, 0)])], [], [], 1, [], 0, [[[((-115), 0), (1, 1)], [(115, 0), ((-1), 1)]]], [], [])
theorem ko_r478 : qCok kc_r478 := sorry
-- 10 java/lang/String.charAt (('s', 0), ('c', 115))
def kc_r479 : qCt := (10, 4, [(3, []), (0, [(115, 0)])], [], [], 1, [], 0, [[[((-115), 0), (1, 1)], [(115, 0), ((-1), 1)]]], [], [])
theorem ko_r479 : qCok kc_r479 := sorry
-- 14 jdk/internal/util/Preconditions.checkIndex (('c', 116), ('c', 121), ('s', 2))
def kc_r480 : qCt := (14, 1, [(0, [(116, 0)]), (0, [(121, 0)]), (3, [(2, 0)])], [], [], 1, [], 0, [[[((-116), 0), (1, 1)], [(116, 0), ((-1), 1)]]], [], [])
theorem ko_r480 : qCok kc_r480 := sorry
-- 13 java/lang/String.checkIndex (('c', 116), ('c', 121))
def kc_r481 : qCt := (13, 2, [(0, [(116, 0)]), (0, [(121, 0)])], [], [], 1, [], 9, [[]], [], [])
theorem ko_r481 : qCok kc_r481 := sorry
-- 12 java/lang/StringLatin1.charAt (('s', 1), ('c', 116))
def kc_r482 : qCt := (12, 3, [(3, [(1, 0)]), (0, [(116, 0)])], [], [], 1, [], 0, [[[((-108), 0), (1, 1)], [(108, 0), ((-1), 1)]]], [], [])
theorem ko_r482 : qCok kc_r482 := sorry
-- 10 java/lang/String.charAt (('s', 0), ('c', 116))
def kc_r483 : qCt := (10, 4, [(3, []), (0, [(116, 0)])], [], [], 1, [], 0, [[[((-108), 0), (1, 1)], [(108, 0), ((-1), 1)]]], [], [])
theorem ko_r483 : qCok kc_r483 := sorry
-- 14 jdk/internal/util/Preconditions.checkIndex (('c', 117), ('c', 121), ('s', 2))
def kc_r484 : qCt := (14, 1, [(0, [(117, 0)]), (0, [(121, 0)]), (3, [(2, 0)])], [], [], 1, [], 0, [[[((-117), 0), (1, 1)], [(117, 0), ((-1), 1)]]], [], [])
theorem ko_r484 : qCok kc_r484 := sorry
-- 13 java/lang/String.checkIndex (('c', 117), ('c', 121))
def kc_r485 : qCt := (13, 2, [(0, [(117, 0)]), (0, [(121, 0)])], [], [], 1, [], 9, [[]], [], [])
theorem ko_r485 : qCok kc_r485 := sorry
-- 12 java/lang/StringLatin1.charAt (('s', 1), ('c', 117))
def kc_r486 : qCt := (12, 3, [(3, [(1, 0)]), (0, [(117, 0)])], [], [], 1, [], 0, [[[((-111), 0), (1, 1)], [(111, 0), ((-1), 1)]]], [], [])
theorem ko_r486 : qCok kc_r486 := sorry
-- 10 java/lang/String.charAt (('s', 0), ('c', 117))
def kc_r487 : qCt := (10, 4, [(3, []), (0, [(117, 0)])], [], [], 1, [], 0, [[[((-111), 0), (1, 1)], [(111, 0), ((-1), 1)]]], [], [])
theorem ko_r487 : qCok kc_r487 := sorry
-- 14 jdk/internal/util/Preconditions.checkIndex (('c', 118), ('c', 121), ('s', 2))
def kc_r488 : qCt := (14, 1, [(0, [(118, 0)]), (0, [(121, 0)]), (3, [(2, 0)])], [], [], 1, [], 0, [[[((-118), 0), (1, 1)], [(118, 0), ((-1), 1)]]], [], [])
theorem ko_r488 : qCok kc_r488 := sorry
-- 13 java/lang/String.checkIndex (('c', 118), ('c', 121))
def kc_r489 : qCt := (13, 2, [(0, [(118, 0)]), (0, [(121, 0)])], [], [], 1, [], 9, [[]], [], [])
theorem ko_r489 : qCok kc_r489 := sorry
-- 12 java/lang/StringLatin1.charAt (('s', 1), ('c', 118))
def kc_r490 : qCt := (12, 3, [(3, [(1, 0)]), (0, [(118, 0)])], [], [], 1, [], 0, [[[((-112), 0), (1, 1)], [(112, 0), ((-1), 1)]]], [], [])
theorem ko_r490 : qCok kc_r490 := sorry
-- 10 java/lang/String.charAt (('s', 0), ('c', 118))
def kc_r491 : qCt := (10, 4, [(3, []), (0, [(118, 0)])], [], [], 1, [], 0, [[[((-112), 0), (1, 1)], [(112, 0), ((-1), 1)]]], [], [])
theorem ko_r491 : qCok kc_r491 := sorry
-- 14 jdk/internal/util/Preconditions.checkIndex (('c', 119), ('c', 121), ('s', 2))
def kc_r492 : qCt := (14, 1, [(0, [(119, 0)]), (0, [(121, 0)]), (3, [(2, 0)])], [], [], 1, [], 0, [[[((-119), 0), (1, 1)], [(119, 0), ((-1), 1)]]], [], [])
theorem ko_r492 : qCok kc_r492 := sorry
-- 13 java/lang/String.checkIndex (('c', 119), ('c', 121))
def kc_r493 : qCt := (13, 2, [(0, [(119, 0)]), (0, [(121, 0)])], [], [], 1, [], 9, [[]], [], [])
theorem ko_r493 : qCok kc_r493 := sorry
-- 12 java/lang/StringLatin1.charAt (('s', 1), ('c', 119))
def kc_r494 : qCt := (12, 3, [(3, [(1, 0)]), (0, [(119, 0)])], [], [], 1, [], 0, [[[((-101), 0), (1, 1)], [(101, 0), ((-1), 1)]]], [], [])
theorem ko_r494 : qCok kc_r494 := sorry
-- 10 java/lang/String.charAt (('s', 0), ('c', 119))
def kc_r495 : qCt := (10, 4, [(3, []), (0, [(119, 0)])], [], [], 1, [], 0, [[[((-101), 0), (1, 1)], [(101, 0), ((-1), 1)]]], [], [])
theorem ko_r495 : qCok kc_r495 := sorry
-- 14 jdk/internal/util/Preconditions.checkIndex (('c', 120), ('c', 121), ('s', 2))
def kc_r496 : qCt := (14, 1, [(0, [(120, 0)]), (0, [(121, 0)]), (3, [(2, 0)])], [], [], 1, [], 0, [[[((-120), 0), (1, 1)], [(120, 0), ((-1), 1)]]], [], [])
theorem ko_r496 : qCok kc_r496 := sorry
-- 13 java/lang/String.checkIndex (('c', 120), ('c', 121))
def kc_r497 : qCt := (13, 2, [(0, [(120, 0)]), (0, [(121, 0)])], [], [], 1, [], 9, [[]], [], [])
theorem ko_r497 : qCok kc_r497 := sorry
-- 12 java/lang/StringLatin1.charAt (('s', 1), ('c', 120))
def kc_r498 : qCt := (12, 3, [(3, [(1, 0)]), (0, [(120, 0)])], [], [], 1, [], 0, [[[((-32), 0), (1, 1)], [(32, 0), ((-1), 1)]]], [], [])
theorem ko_r498 : qCok kc_r498 := sorry
-- 10 java/lang/String.charAt (('s', 0), ('c', 120))
def kc_r499 : qCt := (10, 4, [(3, []), (0, [(120, 0)])], [], [], 1, [], 0, [[[((-32), 0), (1, 1)], [(32, 0), ((-1), 1)]]], [], [])
theorem ko_r499 : qCok kc_r499 := sorry
