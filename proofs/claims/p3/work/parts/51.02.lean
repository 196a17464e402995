/-! CONTRACTS (by program, wip/p2). -/
-- 12 java/lang/StringLatin1.charAt (('s', 1), ('c', 33))
def kc_r150 : qCt := (12, 3, [(3, [(1, 0)]), (0, [(33, 0)])], [], [], 1, [], 0, [[[((-111), 0), (1, 1)], [(111, 0), ((-1), 1)]]], [], [])
theorem ko_r150 : qCok kc_r150 := sorry
-- 10 java/lang/String.charAt (('s', 0), ('c', 33))
def kc_r151 : qCt := (10, 4, [(3, []), (0, [(33, 0)])], [], [], 1, [], 0, [[[((-111), 0), (1, 1)], [(111, 0), ((-1), 1)]]], [], [])
theorem ko_r151 : qCok kc_r151 := sorry
-- 14 jdk/internal/util/Preconditions.checkIndex (('c', 34), ('c', 121), ('s', 2))
def kc_r152 : qCt := (14, 1, [(0, [(34, 0)]), (0, [(121, 0)]), (3, [(2, 0)])], [], [], 1, [], 0, [[[((-34), 0), (1, 1)], [(34, 0), ((-1), 1)]]], [], [])
theorem ko_r152 : qCok kc_r152 := sorry
-- 13 java/lang/String.checkIndex (('c', 34), ('c', 121))
def kc_r153 : qCt := (13, 2, [(0, [(34, 0)]), (0, [(121, 0)])], [], [], 1, [], 9, [[]], [], [])
theorem ko_r153 : qCok kc_r153 := sorry
-- 12 java/lang/StringLatin1.charAt (('s', 1), ('c', 34))
def kc_r154 : qCt := (12, 3, [(3, [(1, 0)]), (0, [(34, 0)])], [], [], 1, [], 0, [[[((-114), 0), (1, 1)], [(114, 0), ((-1), 1)]]], [], [])
theorem ko_r154 : qCok kc_r154 := sorry
-- 10 java/lang/String.charAt (('s', 0), ('c', 34))
def kc_r155 : qCt := (10, 4, [(3, []), (0, [(34, 0)])], [], [], 1, [], 0, [[[((-114), 0), (1, 1)], [(114, 0), ((-1), 1)]]], [], [])
theorem ko_r155 : qCok kc_r155 := sorry
-- 14 jdk/internal/util/Preconditions.checkIndex (('c', 35), ('c', 121), ('s', 2))
def kc_r156 : qCt := (14, 1, [(0, [(35, 0)]), (0, [(121, 0)]), (3, [(2, 0)])], [], [], 1, [], 0, [[[((-35), 0), (1, 1)], [(35, 0), ((-1), 1)]]], [], [])
theorem ko_r156 : qCok kc_r156 := sorry
-- 13 java/lang/String.checkIndex (('c', 35), ('c', 121))
def kc_r157 : qCt := (13, 2, [(0, [(35, 0)]), (0, [(121, 0)])], [], [], 1, [], 9, [[]], [], [])
theorem ko_r157 : qCok kc_r157 := sorry
-- 12 java/lang/StringLatin1.charAt (('s', 1), ('c', 35))
def kc_r158 : qCt := (12, 3, [(3, [(1, 0)]), (0, [(35, 0)])], [], [], 1, [], 0, [[[((-115), 0), (1, 1)], [(115, 0), ((-1), 1)]]], [], [])
theorem ko_r158 : qCok kc_r158 := sorry
-- 10 java/lang/String.charAt (('s', 0), ('c', 35))
def kc_r159 : qCt := (10, 4, [(3, []), (0, [(35, 0)])], [], [], 1, [], 0, [[[((-115), 0), (1, 1)], [(115, 0), ((-1), 1)]]], [], [])
theorem ko_r159 : qCok kc_r159 := sorry
-- 14 jdk/internal/util/Preconditions.checkIndex (('c', 36), ('c', 121), ('s', 2))
def kc_r160 : qCt := (14, 1, [(0, [(36, 0)]), (0, [(121, 0)]), (3, [(2, 0)])], [], [], 1, [], 0, [[[((-36), 0), (1, 1)], [(36, 0), ((-1), 1)]]], [], [])
theorem ko_r160 : qCok kc_r160 := sorry
-- 13 java/lang/String.checkIndex (('c', 36), ('c', 121))
def kc_r161 : qCt := (13, 2, [(0, [(36, 0)]), (0, [(121, 0)])], [], [], 1, [], 9, [[]], [], [])
theorem ko_r161 : qCok kc_r161 := sorry
-- 12 java/lang/StringLatin1.charAt (('s', 1), ('c', 36))
def kc_r162 : qCt := (12, 3, [(3, [(1, 0)]), (0, [(36, 0)])], [], [], 1, [], 0, [[[((-101), 0), (1, 1)], [(101, 0), ((-1), 1)]]], [], [])
theorem ko_r162 : qCok kc_r162 := sorry
-- 10 java/lang/String.charAt (('s', 0), ('c', 36))
def kc_r163 : qCt := (10, 4, [(3, []), (0, [(36, 0)])], [], [], 1, [], 0, [[[((-101), 0), (1, 1)], [(101, 0), ((-1), 1)]]], [], [])
theorem ko_r163 : qCok kc_r163 := sorry
-- 14 jdk/internal/util/Preconditions.checkIndex (('c', 37), ('c', 121), ('s', 2))
def kc_r164 : qCt := (14, 1, [(0, [(37, 0)]), (0, [(121, 0)]), (3, [(2, 0)])], [], [], 1, [], 0, [[[((-37), 0), (1, 1)], [(37, 0), ((-1), 1)]]], [], [])
theorem ko_r164 : qCok kc_r164 := sorry
-- 13 java/lang/String.checkIndex (('c', 37), ('c', 121))
def kc_r165 : qCt := (13, 2, [(0, [(37, 0)]), (0, [(121, 0)])], [], [], 1, [], 9, [[]], [], [])
theorem ko_r165 : qCok kc_r165 := sorry
-- 12 java/lang/StringLatin1.charAt (('s', 1), ('c', 37))
def kc_r166 : qCt := (12, 3, [(3, [(1, 0)]), (0, [(37, 0)])], [], [], 1, [], 0, [[[((-32), 0), (1, 1)], [(32, 0), ((-1), 1)]]], [], [])
theorem ko_r166 : qCok kc_r166 := sorry
-- 10 java/lang/String.charAt (('s', 0), ('c', 37))
def kc_r167 : qCt := (10, 4, [(3, []), (0, [(37, 0)])], [], [], 1, [], 0, [[[((-32), 0), (1, 1)], [(32, 0), ((-1), 1)]]], [], [])
theorem ko_r167 : qCok kc_r167 := sorry
-- 14 jdk/internal/util/Preconditions.checkIndex (('c', 38), ('c', 121), ('s', 2))
def kc_r168 : qCt := (14, 1, [(0, [(38, 0)]), (0, [(121, 0)]), (3, [(2, 0)])], [], [], 1, [], 0, [[[((-38), 0), (1, 1)], [(38, 0), ((-1), 1)]]], [], [])
theorem ko_r168 : qCok kc_r168 := sorry
-- 13 java/lang/String.checkIndex (('c', 38), ('c', 121))
def kc_r169 : qCt := (13, 2, [(0, [(38, 0)]), (0, [(121, 0)])], [], [], 1, [], 9, [[]], [], [])
theorem ko_r169 : qCok kc_r169 := sorry
-- 12 java/lang/StringLatin1.charAt (('s', 1), ('c', 38))
def kc_r170 : qCt := (12, 3, [(3, [(1, 0)]), (0, [(38, 0)])], [], [], 1, [], 0, [[[((-114), 0), (1, 1)], [(114, 0), ((-1), 1)]]], [], [])
theorem ko_r170 : qCok kc_r170 := sorry
-- 10 java/lang/String.charAt (('s', 0), ('c', 38))
def kc_r171 : qCt := (10, 4, [(3, []), (0, [(38, 0)])], [], [], 1, [], 0, [[[((-114), 0), (1, 1)], [(114, 0), ((-1), 1)]]], [], [])
theorem ko_r171 : qCok kc_r171 := sorry
-- 14 jdk/internal/util/Preconditions.checkIndex (('c', 39), ('c', 121), ('s', 2))
def kc_r172 : qCt := (14, 1, [(0, [(39, 0)]), (0, [(121, 0)]), (3, [(2, 0)])], [], [], 1, [], 0, [[[((-39), 0), (1, 1)], [(39, 0), ((-1), 1)]]], [], [])
theorem ko_r172 : qCok kc_r172 := sorry
-- 13 java/lang/String.checkIndex (('c', 39), ('c', 121))
def kc_r173 : qCt := (13, 2, [(0, [(39, 0)]), (0, [(121, 0)])], [], [], 1, [], 9, [[]], [], [])
theorem ko_r173 : qCok kc_r173 := sorry
-- 12 java/lang/StringLatin1.charAt (('s', 1), ('c', 39))
def kc_r174 : qCt := (12, 3, [(3, [(1, 0)]), (0, [(39, 0)])], [], [], 1, [], 0, [[[((-111), 0), (1, 1)], [(111, 0), ((-1), 1)]]], [], [])
theorem ko_r174 : qCok kc_r174 := sorry
-- 10 java/lang/String.charAt (('s', 0), ('c', 39))
def kc_r175 : qCt := (10, 4, [(3, []), (0, [(39, 0)])], [], [], 1, [], 0, [[[((-111), 0), (1, 1)], [(111, 0), ((-1), 1)]]], [], [])
theorem ko_r175 : qCok kc_r175 := sorry
-- 14 jdk/internal/util/Preconditions.checkIndex (('c', 40), ('c', 121), ('s', 2))
def kc_r176 : qCt := (14, 1, [(0, [(40, 0)]), (0, [(121, 0)]), (3, [(2, 0)])], [], [], 1, [], 0, [[[((-40), 0), (1, 1)], [(40, 0), ((-1), 1)]]], [], [])
theorem ko_r176 : qCok kc_r176 := sorry
-- 13 java/lang/String.checkIndex (('c', 40), ('c', 121))
def kc_r177 : qCt := (13, 2, [(0, [(40, 0)]), (0, [(121, 0)])], [], [], 1, [], 9, [[]], [], [])
theorem ko_r177 : qCok kc_r177 := sorry
-- 12 java/lang/StringLatin1.charAt (('s', 1), ('c', 40))
def kc_r178 : qCt := (12, 3, [(3, [(1, 0)]), (0, [(40, 0)])], [], [], 1, [], 0, [[[((-112), 0), (1, 1)], [(112, 0), ((-1), 1)]]], [], [])
theorem ko_r178 : qCok kc_r178 := sorry
-- 10 java/lang/String.charAt (('s', 0), ('c', 40))
def kc_r179 : qCt := (10, 4, [(3, []), (0, [(40, 0)])], [], [], 1, [], 0, [[[((-112), 0), (1, 1)], [(112, 0), ((-1), 1)]]], [], [])
theorem ko_r179 : qCok kc_r179 := sorry
-- 14 jdk/internal/util/Preconditions.checkIndex (('c', 41), ('c', 121), ('s', 2))
def kc_r180 : qCt := (14, 1, [(0, [(41, 0)]), (0, [(121, 0)]), (3, [(2, 0)])], [], [], 1, [], 0, [[[((-41), 0), (1, 1)], [(41, 0), ((-1), 1)]]], [], [])
theorem ko_r180 : qCok kc_r180 := sorry
-- 13 java/lang/String.checkIndex (('c', 41), ('c', 121))
def kc_r181 : qCt := (13, 2, [(0, [(41, 0)]), (0, [(121, 0)])], [], [], 1, [], 9, [[]], [], [])
theorem ko_r181 : qCok kc_r181 := sorry
-- 12 java/lang/StringLatin1.charAt (('s', 1), ('c', 41))
def kc_r182 : qCt := (12, 3, [(3, [(1, 0)]), (0, [(41, 0)])], [], [], 1, [], 0, [[[((-101), 0), (1, 1)], [(101, 0), ((-1), 1)]]], [], [])
theorem ko_r182 : qCok kc_r182 := sorry
-- 10 java/lang/String.charAt (('s', 0), ('c', 41))
def kc_r183 : qCt := (10, 4, [(3, []), (0, [(41, 0)])], [], [], 1, [], 0, [[[((-101), 0), (1, 1)], [(101, 0), ((-1), 1)]]], [], [])
theorem ko_r183 : qCok kc_r183 := sorry
-- 14 jdk/internal/util/Preconditions.checkIndex (('c', 42), ('c', 121), ('s', 2))
def kc_r184 : qCt := (14, 1, [(0, [(42, 0)]), (0, [(121, 0)]), (3, [(2, 0)])], [], [], 1, [], 0, [[[((-42), 0), (1, 1)], [(42, 0), ((-1), 1)]]], [], [])
theorem ko_r184 : qCok kc_r184 := sorry
-- 13 java/lang/String.checkIndex (('c', 42), ('c', 121))
def kc_r185 : qCt := (13, 2, [(0, [(42, 0)]), (0, [(121, 0)])], [], [], 1, [], 9, [[]], [], [])
theorem ko_r185 : qCok kc_r185 := sorry
-- 12 java/lang/StringLatin1.charAt (('s', 1), ('c', 42))
def kc_r186 : qCt := (12, 3, [(3, [(1, 0)]), (0, [(42, 0)])], [], [], 1, [], 0, [[[((-32), 0), (1, 1)], [(32, 0), ((-1), 1)]]], [], [])
theorem ko_r186 : qCok kc_r186 := sorry
-- 10 java/lang/String.charAt (('s', 0), ('c', 42))
def kc_r187 : qCt := (10, 4, [(3, []), (0, [(42, 0)])], [], [], 1, [], 0, [[[((-32), 0), (1, 1)], [(32, 0), ((-1), 1)]]], [], [])
theorem ko_r187 : qCok kc_r187 := sorry
-- 14 jdk/internal/util/Preconditions.checkIndex (('c', 43), ('c', 121), ('s', 2))
def kc_r188 : qCt := (14, 1, [(0, [(43, 0)]), (0, [(121, 0)]), (3, [(2, 0)])], [], [], 1, [], 0, [[[((-43), 0), (1, 1)], [(43, 0), ((-1), 1)]]], [], [])
theorem ko_r188 : qCok kc_r188 := sorry
-- 13 java/lang/String.checkIndex (('c', 43), ('c', 121))
def kc_r189 : qCt := (13, 2, [(0, [(43, 0)]), (0, [(121, 0)])], [], [], 1, [], 9, [[]], [], [])
theorem ko_r189 : qCok kc_r189 := sorry
-- 12 java/lang/StringLatin1.charAt (('s', 1), ('c', 43))
def kc_r190 : qCt := (12, 3, [(3, [(1, 0)]), (0, [(43, 0)])], [], [], 1, [], 0, [[[((-115), 0), (1, 1)], [(115, 0), ((-1), 1)]]], [], [])
theorem ko_r190 : qCok kc_r190 := sorry
-- 10 java/lang/String.charAt (('s', 0), ('c', 43))
def kc_r191 : qCt := (10, 4, [(3, []), (0, [(43, 0)])], [], [], 1, [], 0, [[[((-115), 0), (1, 1)], [(115, 0), ((-1), 1)]]], [], [])
theorem ko_r191 : qCok kc_r191 := sorry
-- 14 jdk/internal/util/Preconditions.checkIndex (('c', 44), ('c', 121), ('s', 2))
def kc_r192 : qCt := (14, 1, [(0, [(44, 0)]), (0, [(121, 0)]), (3, [(2, 0)])], [], [], 1, [], 0, [[[((-44), 0), (1, 1)], [(44, 0), ((-1), 1)]]], [], [])
theorem ko_r192 : qCok kc_r192 := sorry
-- 13 java/lang/String.checkIndex (('c', 44), ('c', 121))
def kc_r193 : qCt := (13, 2, [(0, [(44, 0)]), (0, [(121, 0)])], [], [], 1, [], 9, [[]], [], [])
theorem ko_r193 : qCok kc_r193 := sorry
-- 12 java/lang/StringLatin1.charAt (('s', 1), ('c', 44))
def kc_r194 : qCt := (12, 3, [(3, [(1, 0)]), (0, [(44, 0)])], [], [], 1, [], 0, [[[((-116), 0), (1, 1)], [(116, 0), ((-1), 1)]]], [], [])
theorem ko_r194 : qCok kc_r194 := sorry
-- 10 java/lang/String.charAt (('s', 0), ('c', 44))
def kc_r195 : qCt := (10, 4, [(3, []), (0, [(44, 0)])], [], [], 1, [], 0, [[[((-116), 0), (1, 1)], [(116, 0), ((-1), 1)]]], [], [])
theorem ko_r195 : qCok kc_r195 := sorry
-- 14 jdk/internal/util/Preconditions.checkIndex (('c', 45), ('c', 121), ('s', 2))
def kc_r196 : qCt := (14, 1, [(0, [(45, 0)]), (0, [(121, 0)]), (3, [(2, 0)])], [], [], 1, [], 0, [[[((-45), 0), (1, 1)], [(45, 0), ((-1), 1)]]], [], [])
theorem ko_r196 : qCok kc_r196 := sorry
-- 13 java/lang/String.checkIndex (('c', 45), ('c', 121))
def kc_r197 : qCt := (13, 2, [(0, [(45, 0)]), (0, [(121, 0)])], [], [], 1, [], 9, [[]], [], [])
theorem ko_r197 : qCok kc_r197 := sorry
-- 12 java/lang/StringLatin1.charAt (('s', 1), ('c', 45))
def kc_r198 : qCt := (12, 3, [(3, [(1, 0)]), (0, [(45, 0)])], [], [], 1, [], 0, [[[((-111), 0), (1, 1)], [(111, 0), ((-1), 1)]]], [], [])
theorem ko_r198 : qCok kc_r198 := sorry
-- 10 java/lang/String.charAt (('s', 0), ('c', 45))
def kc_r199 : qCt := (10, 4, [(3, []), (0, [(45, 0)])], [], [], 1, [], 0, [[[((-111), 0), (1, 1)], [(111, 0), ((-1), 1)]]], [], [])
theorem ko_r199 : qCok kc_r199 := sorry
-- 14 jdk/internal/util/Preconditions.checkIndex (('c', 46), ('c', 121), ('s', 2))
def kc_r200 : qCt := (14, 1, [(0, [(46, 0)]), (0, [(121, 0)]), (3, [(2, 0)])], [], [], 1, [], 0, [[[((-46), 0), (1, 1)], [(46, 0), ((-1), 1)]]], [], [])
theorem ko_r200 : qCok kc_r200 := sorry
-- 13 java/lang/String.checkIndex (('c', 46), ('c', 121))
def kc_r201 : qCt := (13, 2, [(0, [(46, 0)]), (0, [(121, 0)])], [], [], 1, [], 9, [[]], [], [])
theorem ko_r201 : qCok kc_r201 := sorry
-- 12 java/lang/StringLatin1.charAt (('s', 1), ('c', 46))
def kc_r202 : qCt := (12, 3, [(3, [(1, 0)]), (0, [(46, 0)])], [], [], 1, [], 0, [[[((-110), 0), (1, 1)], [(110, 0), ((-1), 1)]]], [], [])
theorem ko_r202 : qCok kc_r202 := sorry
-- 10 java/lang/String.charAt (('s', 0), ('c', 46))
def kc_r203 : qCt := (10, 4, [(3, []), (0, [(46, 0)])], [], [], 1, [], 0, [[[((-110), 0), (1, 1)], [(110, 0), ((-1), 1)]]], [], [])
theorem ko_r203 : qCok kc_r203 := sorry
-- 14 jdk/internal/util/Preconditions.checkIndex (('c', 47), ('c', 121), ('s', 2))
def kc_r204 : qCt := (14, 1, [(0, [(47, 0)]), (0, [(121, 0)]), (3, [(2, 0)])], [], [], 1, [], 0, [[[((-47), 0), (1, 1)], [(47, 0), ((-1), 1)]]], [], [])
theorem ko_r204 : qCok kc_r204 := sorry
-- 13 java/lang/String.checkIndex (('c', 47), ('c', 121))
def kc_r205 : qCt := (13, 2, [(0, [(47, 0)]), (0, [(121, 0)])], [], [], 1, [], 9, [[]], [], [])
theorem ko_r205 : qCok kc_r205 := sorry
-- 12 java/lang/StringLatin1.charAt (('s', 1), ('c', 47))
def kc_r206 : qCt := (12, 3, [(3, [(1, 0)]), (0, [(47, 0)])], [], [], 1, [], 0, [[[((-101), 0), (1, 1)], [(101, 0), ((-1), 1)]]], [], [])
theorem ko_r206 : qCok kc_r206 := sorry
-- 10 java/lang/String.charAt (('s', 0), ('c', 47))
def kc_r207 : qCt := (10, 4, [(3, []), (0, [(47, 0)])], [], [], 1, [], 0, [[[((-101), 0), (1, 1)], [(101, 0), ((-1), 1)]]], [], [])
theorem ko_r207 : qCok kc_r207 := sorry
-- 14 jdk/internal/util/Preconditions.checkIndex (('c', 48), ('c', 121), ('s', 2))
def kc_r208 : qCt := (14, 1, [(0, [(48, 0)]), (0, [(121, 0)]), (3, [(2, 0)])], [], [], 1, [], 0, [[[((-48), 0), (1, 1)], [(48, 0), ((-1), 1)]]], [], [])
theorem ko_r208 : qCok kc_r208 := sorry
-- 13 java/lang/String.checkIndex (('c', 48), ('c', 121))
def kc_r209 : qCt := (13, 2, [(0, [(48, 0)]), (0, [(121, 0)])], [], [], 1, [], 9, [[]], [], [])
theorem ko_r209 : qCok kc_r209 := sorry
-- 12 java/lang/StringLatin1.charAt (('s', 1), ('c', 48))
def kc_r210 : qCt := (12, 3, [(3, [(1, 0)]), (0, [(48, 0)])], [], [], 1, [], 0, [[[((-32), 0), (1, 1)], [(32, 0), ((-1), 1)]]], [], [])
theorem ko_r210 : qCok kc_r210 := sorry
-- 10 java/lang/String.charAt (('s', 0), ('c', 48))
def kc_r211 : qCt := (10, 4, [(3, []), (0, [(48, 0)])], [], [], 1, [], 0, [[[((-32), 0), (1, 1)], [(32, 0), ((-1), 1)]]], [], [])
theorem ko_r211 : qCok kc_r211 := sorry
-- 14 jdk/internal/util/Preconditions.checkIndex (('c', 49), ('c', 121), ('s', 2))
def kc_r212 : qCt := (14, 1, [(0, [(49, 0)]), (0, [(121, 0)]), (3, [(2, 0)])], [], [], 1, [], 0, [[[((-49), 0), (1, 1)], [(49, 0), ((-1), 1)]]], [], [])
theorem ko_r212 : qCok kc_r212 := sorry
-- 13 java/lang/String.checkIndex (('c', 49), ('c', 121))
def kc_r213 : qCt := (13, 2, [(0, [(49, 0)]), (0, [(121, 0)])], [], [], 1, [], 9, [[]], [], [])
theorem ko_r213 : qCok kc_r213 := sorry
-- 12 java/lang/StringLatin1.charAt (('s', 1), ('c', 49))
def kc_r214 : qCt := (12, 3, [(3, [(1, 0)]), (0, [(49, 0)])], [], [], 1, [], 0, [[[((-115), 0), (1, 1)], [(115, 0), ((-1), 1)]]], [], [])
theorem ko_r214 : qCok kc_r214 := sorry
-- 10 java/lang/String.charAt (('s', 0), ('c', 49))
def kc_r215 : qCt := (10, 4, [(3, []), (0, [(49, 0)])], [], [], 1, [], 0, [[[((-115), 0), (1, 1)], [(115, 0), ((-1), 1)]]], [], [])
theorem ko_r215 : qCok kc_r215 := sorry
-- 14 jdk/internal/util/Preconditions.checkIndex (('c', 50), ('c', 121), ('s', 2))
def kc_r216 : qCt := (14, 1, [(0, [(50, 0)]), (0, [(121, 0)]), (3, [(2, 0)])], [], [], 1, [], 0, [[[((-50), 0), (1, 1)], [(50, 0), ((-1), 1)]]], [], [])
theorem ko_r216 : qCok kc_r216 := sorry
-- 13 java/lang/String.checkIndex (('c', 50), ('c', 121))
def kc_r217 : qCt := (13, 2, [(0, [(50, 0)]), (0, [(121, 0)])], [], [], 1, [], 9, [[]], [], [])
theorem ko_r217 : qCok kc_r217 := sorry
-- 12 java/lang/StringLatin1.charAt (('s', 1), ('c', 50))
def kc_r218 : qCt := (12, 3, [(3, [(1, 0)]), (0, [(50, 0)])], [], [], 1, [], 0, [[[((-101), 0), (1, 1)], [(101, 0), ((-1), 1)]]], [], [])
theorem ko_r218 : qCok kc_r218 := sorry
-- 10 java/lang/String.charAt (('s', 0), ('c', 50))
def kc_r219 : qCt := (10, 4, [(3, []), (0, [(50, 0)])], [], [], 1, [], 0, [[[((-101), 0), (1, 1)], [(101, 0), ((-1), 1)]]], [], [])
theorem ko_r219 : qCok kc_r219 := sorry
-- 14 jdk/internal/util/Preconditions.checkIndex (('c', 51), ('c', 121), ('s', 2))
def kc_r220 : qCt := (14, 1, [(0, [(51, 0)]), (0, [(121, 0)]), (3, [(2, 0)])], [], [], 1, [], 0, [[[((-51), 0), (1, 1)], [(51, 0), ((-1), 1)]]], [], [])
theorem ko_r220 : qCok kc_r220 := sorry
-- 13 java/lang/String.checkIndex (('c', 51), ('c', 121))
def kc_r221 : qCt := (13, 2, [(0, [(51, 0)]), (0, [(121, 0)])], [], [], 1, [], 9, [[]], [], [])
theorem ko_r221 : qCok kc_r221 := sorry
-- 12 java/lang/StringLatin1.charAt (('s', 1), ('c', 51))
def kc_r222 : qCt := (12, 3, [(3, [(1, 0)]), (0, [(51, 0)])], [], [], 1, [], 0, [[[((-101), 0), (1, 1)], [(101, 0), ((-1), 1)]]], [], [])
theorem ko_r222 : qCok kc_r222 := sorry
-- 10 java/lang/String.charAt (('s', 0), ('c', 51))
def kc_r223 : qCt := (10, 4, [(3, []), (0, [(51, 0)])], [], [], 1, [], 0, [[[((-101), 0), (1, 1)], [(101, 0), ((-1), 1)]]], [], [])
theorem ko_r223 : qCok kc_r223 := sorry
-- 14 jdk/internal/util/Preconditions.checkIndex (('c', 52), ('c', 121), ('s', 2))
def kc_r224 : qCt := (14, 1, [(0, [(52, 0)]), (0, [(121, 0)]), (3, [(2, 0)])], [], [], 1, [], 0, [[[((-52), 0), (1, 1)], [(52, 0), ((-1), 1)]]], [], [])
theorem ko_r224 : qCok kc_r224 := sorry
-- 13 java/lang/String.checkIndex (('c', 52), ('c', 121))
def kc_r225 : qCt := (13, 2, [(0, [(52, 0)]), (0, [(121, 0)])], [], [], 1, [], 9, [[]], [], [])
theorem ko_r225 : qCok kc_r225 := sorry
-- 12 java/lang/StringLatin1.charAt (('s', 1), ('c', 52))
def kc_r226 : qCt := (12, 3, [(3, [(1, 0)]), (0, [(52, 0)])], [], [], 1, [], 0, [[[((-100), 0), (1, 1)], [(100, 0), ((-1), 1)]]], [], [])
theorem ko_r226 : qCok kc_r226 := sorry
-- 10 java/lang/String.charAt (('s', 0), ('c', 52))
def kc_r227 : qCt := (10, 4, [(3, []), (0, [(52, 0)])], [], [], 1, [], 0, [[[((-100), 0), (1, 1)], [(100, 0), ((-1), 1)]]], [], [])
theorem ko_r227 : qCok kc_r227 := sorry
-- 14 jdk/internal/util/Preconditions.checkIndex (('c', 53), ('c', 121), ('s', 2))
def kc_r228 : qCt := (14, 1, [(0, [(53, 0)]), (0, [(121, 0)]), (3, [(2, 0)])], [], [], 1, [], 0, [[[((-53), 0), (1, 1)], [(53, 0), ((-1), 1)]]], [], [])
theorem ko_r228 : qCok kc_r228 := sorry
-- 13 java/lang/String.checkIndex (('c', 53), ('c', 121))
def kc_r229 : qCt := (13, 2, [(0, [(53, 0)]), (0, [(121, 0)])], [], [], 1, [], 9, [[]], [], [])
theorem ko_r229 : qCok kc_r229 := sorry
-- 12 java/lang/StringLatin1.charAt (('s', 1), ('c', 53))
def kc_r230 : qCt := (12, 3, [(3, [(1, 0)]), (0, [(53, 0)])], [], [], 1, [], 0, [[[((-32), 0), (1, 1)], [(32, 0), ((-1), 1)]]], [], [])
theorem ko_r230 : qCok kc_r230 := sorry
-- 10 java/lang/String.charAt (('s', 0), ('c', 53))
def kc_r231 : qCt := (10, 4, [(3, []), (0, [(53, 0)])], [], [], 1, [], 0, [[[((-32), 0), (1, 1)], [(32, 0), ((-1), 1)]]], [], [])
theorem ko_r231 : qCok kc_r231 := sorry
-- 14 jdk/internal/util/Preconditions.checkIndex (('c', 54), ('c', 121), ('s', 2))
def kc_r232 : qCt := (14, 1, [(0, [(54, 0)]), (0, [(121, 0)]), (3, [(2, 0)])], [], [], 1, [], 0, [[[((-54), 0), (1, 1)], [(54, 0), ((-1), 1)]]], [], [])
theorem ko_r232 : qCok kc_r232 := sorry
-- 13 java/lang/String.checkIndex (('c', 54), ('c', 121))
def kc_r233 : qCt := (13, 2, [(0, [(54, 0)]), (0, [(121, 0)])], [], [], 1, [], 9, [[]], [], [])
theorem ko_r233 : qCok kc_r233 := sorry
-- 12 java/lang/StringLatin1.charAt (('s', 1), ('c', 54))
def kc_r234 : qCt := (12, 3, [(3, [(1, 0)]), (0, [(54, 0)])], [], [], 1, [], 0, [[[((-108), 0), (1, 1)], [(108, 0), ((-1), 1)]]], [], [])
theorem ko_r234 : qCok kc_r234 := sorry
-- 10 java/lang/String.charAt (('s', 0), ('c', 54))
def kc_r235 : qCt := (10, 4, [(3, []), (0, [(54, 0)])], [], [], 1, [], 0, [[[((-108), 0), (1, 1)], [(108, 0), ((-1), 1)]]], [], [])
theorem ko_r235 : qCok kc_r235 := sorry
-- 14 jdk/internal/util/Preconditions.checkIndex (('c', 55), ('c', 121), ('s', 2))
def kc_r236 : qCt := (14, 1, [(0, [(55, 0)]), (0, [(121, 0)]), (3, [(2, 0)])], [], [], 1, [], 0, [[[((-55), 0), (1, 1)], [(55, 0), ((-1), 1)]]], [], [])
theorem ko_r236 : qCok kc_r236 := sorry
-- 13 java/lang/String.checkIndex (('c', 55), ('c', 121))
def kc_r237 : qCt := (13, 2, [(0, [(55, 0)]), (0, [(121, 0)])], [], [], 1, [], 9, [[]], [], [])
theorem ko_r237 : qCok kc_r237 := sorry
-- 12 java/lang/StringLatin1.charAt (('s', 1), ('c', 55))
def kc_r238 : qCt := (12, 3, [(3, [(1, 0)]), (0, [(55, 0)])], [], [], 1, [], 0, [[[((-97), 0), (1, 1)], [(97, 0), ((-1), 1)]]], [], [])
theorem ko_r238 : qCok kc_r238 := sorry
-- 10 java/lang/String.charAt (('s', 0), ('c', 55))
def kc_r239 : qCt := (10, 4, [(3, []), (0, [(55, 0)])], [], [], 1, [], 0, [[[((-97), 0), (1, 1)], [(97, 0), ((-1), 1)]]], [], [])
theorem ko_r239 : qCok kc_r239 := sorry
-- 14 jdk/internal/util/Preconditions.checkIndex (('c', 56), ('c', 121), ('s', 2))
def kc_r240 : qCt := (14, 1, [(0, [(56, 0)]), (0, [(121, 0)]), (3, [(2, 0)])], [], [], 1, [], 0, [[[((-56), 0), (1, 1)], [(56, 0), ((-1), 1)]]], [], [])
theorem ko_r240 : qCok kc_r240 := sorry
-- 13 java/lang/String.checkIndex (('c', 56), ('c', 121))
def kc_r241 : qCt := (13, 2, [(0, [(56, 0)]), (0, [(121, 0)])], [], [], 1, [], 9, [[]], [], [])
theorem ko_r241 : qCok kc_r241 := sorry
-- 12 java/lang/StringLatin1.charAt (('s', 1), ('c', 56))
def kc_r242 : qCt := (12, 3, [(3, [(1, 0)]), (0, [(56, 0)])], [], [], 1, [], 0, [[[((-119), 0), (1, 1)], [(119, 0), ((-1), 1)]]], [], [])
theorem ko_r242 : qCok kc_r242 := sorry
-- 10 java/lang/String.charAt (('s', 0), ('c', 56))
def kc_r243 : qCt := (10, 4, [(3, []), (0, [(56, 0)])], [], [], 1, [], 0, [[[((-119), 0), (1, 1)], [(119, 0), ((-1), 1)]]], [], [])
theorem ko_r243 : qCok kc_r243 := sorry
-- 14 jdk/internal/util/Preconditions.checkIndex (('c', 57), ('c', 121), ('s', 2))
def kc_r244 : qCt := (14, 1, [(0, [(57, 0)]), (0, [(121, 0)]), (3, [(2, 0)])], [], [], 1, [], 0, [[[((-57), 0), (1, 1)], [(57, 0), ((-1), 1)]]], [], [])
theorem ko_r244 : qCok kc_r244 := sorry
-- 13 java/lang/String.checkIndex (('c', 57), ('c', 121))
def kc_r245 : qCt := (13, 2, [(0, [(57, 0)]), (0, [(121, 0)])], [], [], 1, [], 9, [[]], [], [])
theorem ko_r245 : qCok kc_r245 := sorry
-- 12 java/lang/StringLatin1.charAt (('s', 1), ('c', 57))
def kc_r246 : qCt := (12, 3, [(3, [(1, 0)]), (0, [(57, 0)])], [], [], 1, [], 0, [[[((-32), 0), (1, 1)], [(32, 0), ((-1), 1)]]], [], [])
theorem ko_r246 : qCok kc_r246 := sorry
-- 10 java/lang/String.charAt (('s', 0), ('c', 57))
def kc_r247 : qCt := (10, 4, [(3, []), (0, [(57, 0)])], [], [], 1, [], 0, [[[((-32), 0), (1, 1)], [(32, 0), ((-1), 1)]]], [], [])
theorem ko_r247 : qCok kc_r247 := sorry
-- 14 jdk/internal/util/Preconditions.checkIndex (('c', 58), ('c', 121), ('s', 2))
def kc_r248 : qCt := (14, 1, [(0, [(58, 0)]), (0, [(121, 0)]), (3, [(2, 0)])], [], [], 1, [], 0, [[[((-58), 0), (1, 1)], [(58, 0), ((-1), 1)]]], [], [])
theorem ko_r248 : qCok kc_r248 := sorry
-- 13 java/lang/String.checkIndex (('c', 58), ('c', 121))
def kc_r249 : qCt := (13, 2, [(0, [(58, 0)]), (0, [(121, 0)])], [], [], 1, [], 9, [[]], [], [])
theorem ko_r249 : qCok kc_r249 := sorry
-- 12 java/lang/StringLatin1.charAt (('s', 1), ('c', 58))
def kc_r250 : qCt := (12, 3, [(3, [(1, 0)]), (0, [(58, 0)])], [], [], 1, [], 0, [[[((-119), 0), (1, 1)], [(119, 0), ((-1), 1)]]], [], [])
theorem ko_r250 : qCok kc_r250 := sorry
-- 10 java/lang/String.charAt (('s', 0), ('c', 58))
def kc_r251 : qCt := (10, 4, [(3, []), (0, [(58, 0)])], [], [], 1, [], 0, [[[((-119), 0), (1, 1)], [(119, 0), ((-1), 1)]]], [], [])
theorem ko_r251 : qCok kc_r251 := sorry
-- 14 jdk/internal/util/Preconditions.checkIndex (('c', 59), ('c', 121), ('s', 2))
def kc_r252 : qCt := (14, 1, [(0, [(59, 0)]), (0, [(121, 0)]), (3, [(2, 0)])], [], [], 1, [], 0, [[[((-59), 0), (1, 1)], [(59, 0), ((-1), 1)]]], [], [])
theorem ko_r252 : qCok kc_r252 := sorry
-- 13 java/lang/String.checkIndex (('c', 59), ('c', 121))
def kc_r253 : qCt := (13, 2, [(0, [(59, 0)]), (0, [(121, 0)])], [], [], 1, [], 9, [[]], [], [])
theorem ko_r253 : qCok kc_r253 := sorry
-- 12 java/lang/StringLatin1.charAt (('s', 1), ('c', 59))
def kc_r254 : qCt := (12, 3, [(3, [(1, 0)]), (0, [(59, 0)])], [], [], 1, [], 0, [[[((-105), 0), (1, 1)], [(105, 0), ((-1), 1)]]], [], [])
theorem ko_r254 : qCok kc_r254 := sorry
-- 10 java/lang/String.charAt (('s', 0), ('c', 59))
def kc_r255 : qCt := (10, 4, [(3, []), (0, [(59, 0)])], [], [], 1, [], 0, [[[((-105), 0), (1, 1)], [(105, 0), ((-1), 1)]]], [], [])
theorem ko_r255 : qCok kc_r255 := sorry
-- 14 jdk/internal/util/Preconditions.checkIndex (('c', 60), ('c', 121), ('s', 2))
def kc_r256 : qCt := (14, 1, [(0, [(60, 0)]), (0, [(121, 0)]), (3, [(2, 0)])], [], [], 1, [], 0, [[[((-60), 0), (1, 1)], [(60, 0), ((-1), 1)]]], [], [])
theorem ko_r256 : qCok kc_r256 := sorry
-- 13 java/lang/String.checkIndex (('c', 60), ('c', 121))
def kc_r257 : qCt := (13, 2, [(0, [(60, 0)]), (0, [(121, 0)])], [], [], 1, [], 9, [[]], [], [])
theorem ko_r257 : qCok kc_r257 := sorry
-- 12 java/lang/StringLatin1.charAt (('s', 1), ('c', 60))
def kc_r258 : qCt := (12, 3, [(3, [(1, 0)]), (0, [(60, 0)])], [], [], 1, [], 0, [[[((-100), 0), (1, 1)], [(100, 0), ((-1), 1)]]], [], [])
theorem ko_r258 : qCok kc_r258 := sorry
-- 10 java/lang/String.charAt (('s', 0), ('c', 60))
def kc_r259 : qCt := (10, 4, [(3, []), (0, [(60, 0)])], [], [], 1, [], 0, [[[((-100), 0), (1, 1)], [(100, 0), ((-1), 1)]]], [], [])
theorem ko_r259 : qCok kc_r259 := sorry
-- 14 jdk/internal/util/Preconditions.checkIndex (('c', 61), ('c', 121), ('s', 2))
def kc_r260 : qCt := (14, 1, [(0, [(61, 0)]), (0, [(121, 0)]), (3, [(2, 0)])], [], [], 1, [], 0, [[[((-61), 0), (1, 1)], [(61, 0), ((-1), 1)]]], [], [])
theorem ko_r260 : qCok kc_r260 := sorry
-- 13 java/lang/String.checkIndex (('c', 61), ('c', 121))
def kc_r261 : qCt := (13, 2, [(0, [(61, 0)]), (0, [(121, 0)])], [], [], 1, [], 9, [[]], [], [])
theorem ko_r261 : qCok kc_r261 := sorry
-- 12 java/lang/StringLatin1.charAt (('s', 1), ('c', 61))
def kc_r262 : qCt := (12, 3, [(3, [(1, 0)]), (0, [(61, 0)])], [], [], 1, [], 0, [[[((-101), 0), (1, 1)], [(101, 0), ((-1), 1)]]], [], [])
theorem ko_r262 : qCok kc_r262 := sorry
-- 10 java/lang/String.charAt (('s', 0), ('c', 61))
def kc_r263 : qCt := (10, 4, [(3, []), (0, [(61, 0)])], [], [], 1, [], 0, [[[((-101), 0), (1, 1)], [(101, 0), ((-1), 1)]]], [], [])
theorem ko_r263 : qCok kc_r263 := sorry
-- 14 jdk/internal/util/Preconditions.checkIndex (('c', 62), ('c', 121), ('s', 2))
def kc_r264 : qCt := (14, 1, [(0, [(62, 0)]), (0, [(121, 0)]), (3, [(2, 0)])], [], [], 1, [], 0, [[[((-62), 0), (1, 1)], [(62, 0), ((-1), 1)]]], [], [])
theorem ko_r264 : qCok kc_r264 := sorry
-- 13 java/lang/String.checkIndex (('c', 62), ('c', 121))
def kc_r265 : qCt := (13, 2, [(0, [(62, 0)]), (0, [(121, 0)])], [], [], 1, [], 9, [[]], [], [])
theorem ko_r265 : qCok kc_r265 := sorry
-- 12 java/lang/StringLatin1.charAt (('s', 1), ('c', 62))
def kc_r266 : qCt := (12, 3, [(3, [(1, 0)]), (0, [(62, 0)])], [], [], 1, [], 0, [[[((-32), 0), (1, 1)], [(32, 0), ((-1), 1)]]], [], [])
theorem ko_r266 : qCok kc_r266 := sorry
-- 10 java/lang/String.charAt (('s', 0), ('c', 62))
def kc_r267 : qCt := (10, 4, [(3, []), (0, [(62, 0)])], [], [], 1, [], 0, [[[((-32), 0), (1, 1)], [(32, 0), ((-1), 1)]]], [], [])
theorem ko_r267 : qCok kc_r267 := sorry
-- 14 jdk/internal/util/Preconditions.checkIndex (('c', 63), ('c', 121), ('s', 2))
def kc_r268 : qCt := (14, 1, [(0, [(63, 0)]), (0, [(121, 0)]), (3, [(2, 0)])], [], [], 1, [], 0, [[[((-63), 0), (1, 1)], [(63, 0), ((-1), 1)]]], [], [])
theorem ko_r268 : qCok kc_r268 := sorry
-- 13 java/lang/String.checkIndex (('c', 63), ('c', 121))
def kc_r269 : qCt := (13, 2, [(0, [(63, 0)]), (0, [(121, 0)])], [], [], 1, [], 9, [[]], [], [])
theorem ko_r269 : qCok kc_r269 := sorry
-- 12 java/lang/StringLatin1.charAt (('s', 1), ('c', 63))
def kc_r270 : qCt := (12, 3, [(3, [(1, 0)]), (0, [(63, 0)])], [], [], 1, [], 0, [[[((-119), 0), (1, 1)], [(119, 0), ((-1), 1)]]], [], [])
theorem ko_r270 : qCok kc_r270 := sorry
-- 10 java/lang/String.charAt (('s', 0), ('c', 63))
def kc_r271 : qCt := (10, 4, [(3, []), (0, [(63, 0)])], [], [], 1, [], 0, [[[((-119), 0), (1, 1)], [(119, 0), ((-1), 1)]]], [], [])
theorem ko_r271 : qCok kc_r271 := sorry
-- 14 jdk/internal/util/Preconditions.checkIndex (('c', 64), ('c', 121), ('s', 2))
def kc_r272 : qCt := (14, 1, [(0, [(64, 0)]), (0, [(121, 0)]), (3, [(2, 0)])], [], [], 1, [], 0, [[[((-64), 0), (1, 1)], [(64, 0), ((-1), 1)]]], [], [])
theorem ko_r272 : qCok kc_r272 := sorry
-- 13 java/lang/String.checkIndex (('c', 64), ('c', 121))
def kc_r273 : qCt := (13, 2, [(0, [(64, 0)]), (0, [(121, 0)])], [], [], 1, [], 9, [[]], [], [])
theorem ko_r273 : qCok kc_r273 := sorry
-- 12 java/lang/StringLatin1.charAt (('s', 1), ('c', 64))
def kc_r274 : qCt := (12, 3, [(3, [(1, 0)]), (0, [(64, 0)])], [], [], 1, [], 0, [[[((-105), 0), (1, 1)], [(105, 0), ((-1), 1)]]], [], [])
theorem ko_r274 : qCok kc_r274 := sorry
-- 10 java/lang/String.charAt (('s', 0), ('c', 64))
def kc_r275 : qCt := (10, 4, [(3, []), (0, [(64, 0)])], [], [], 1, [], 0, [[[((-105), 0), (1, 1)], [(105, 0), ((-1), 1)]]], [], [])
theorem ko_r275 : qCok kc_r275 := sorry
-- 14 jdk/internal/util/Preconditions.checkIndex (('c', 65), ('c', 121), ('s', 2))
def kc_r276 : qCt := (14, 1, [(0, [(65, 0)]), (0, [(121, 0)]), (3, [(2, 0)])], [], [], 1, [], 0, [[[((-65), 0), (1, 1)], [(65, 0), ((-1), 1)]]], [], [])
theorem ko_r276 : qCok kc_r276 := sorry
-- 13 java/lang/String.checkIndex (('c', 65), ('c', 121))
def kc_r277 : qCt := (13, 2, [(0, [(65, 0)]), (0, [(121, 0)])], [], [], 1, [], 9, [[]], [], [])
theorem ko_r277 : qCok kc_r277 := sorry
-- 12 java/lang/StringLatin1.charAt (('s', 1), ('c', 65))
def kc_r278 : qCt := (12, 3, [(3, [(1, 0)]), (0, [(65, 0)])], [], [], 1, [], 0, [[[((-110), 0), (1, 1)], [(110, 0), ((-1), 1)]]], [], [])
theorem ko_r278 : qCok kc_r278 := sorry
-- 10 java/lang/String.charAt (('s', 0), ('c', 65))
def kc_r279 : qCt := (10, 4, [(3, []), (0, [(65, 0)])], [], [], 1, [], 0, [[[((-110), 0), (1, 1)], [(110, 0), ((-1), 1)]]], [], [])
theorem ko_r279 : qCok kc_r279 := sorry
-- 14 jdk/internal/util/Preconditions.checkIndex (('c', 66), ('c', 121), ('s', 2))
def kc_r280 : qCt := (14, 1, [(0, [(66, 0)]), (0, [(121, 0)]), (3, [(2, 0)])], [], [], 1, [], 0, [[[((-66), 0), (1, 1)], [(66, 0), ((-1), 1)]]], [], [])
theorem ko_r280 : qCok kc_r280 := sorry
-- 13 java/lang/String.checkIndex (('c', 66), ('c', 121))
def kc_r281 : qCt := (13, 2, [(0, [(66, 0)]), (0, [(121, 0)])], [], [], 1, [], 9, [[]], [], [])
theorem ko_r281 : qCok kc_r281 := sorry
-- 12 java/lang/StringLatin1.charAt (('s', 1), ('c', 66))
def kc_r282 : qCt := (12, 3, [(3, [(1, 0)]), (0, [(66, 0)])], [], [], 1, [], 0, [[[((-100), 0), (1, 1)], [(100, 0), ((-1), 1)]]], [], [])
theorem ko_r282 : qCok kc_r282 := sorry
-- 10 java/lang/String.charAt (('s', 0), ('c', 66))
def kc_r283 : qCt := (10, 4, [(3, []), (0, [(66, 0)])], [], [], 1, [], 0, [[[((-100), 0), (1, 1)], [(100, 0), ((-1), 1)]]], [], [])
theorem ko_r283 : qCok kc_r283 := sorry
-- 14 jdk/internal/util/Preconditions.checkIndex (('c', 67), ('c', 121), ('s', 2))
def kc_r284 : qCt := (14, 1, [(0, [(67, 0)]), (0, [(121, 0)]), (3, [(2, 0)])], [], [], 1, [], 0, [[[((-67), 0), (1, 1)], [(67, 0), ((-1), 1)]]], [], [])
theorem ko_r284 : qCok kc_r284 := sorry
-- 13 java/lang/String.checkIndex (('c', 67), ('c', 121))
def kc_r285 : qCt := (13, 2, [(0, [(67, 0)]), (0, [(121, 0)])], [], [], 1, [], 9, [[]], [], [])
theorem ko_r285 : qCok kc_r285 := sorry
-- 12 java/lang/StringLatin1.charAt (('s', 1), ('c', 67))
def kc_r286 : qCt := (12, 3, [(3, [(1, 0)]), (0, [(67, 0)])], [], [], 1, [], 0, [[[((-32), 0), (1, 1)], [(32, 0), ((-1), 1)]]], [], [])
theorem ko_r286 : qCok kc_r286 := sorry
-- 10 java/lang/String.charAt (('s', 0), ('c', 67))
def kc_r287 : qCt := (10, 4, [(3, []), (0, [(67, 0)])], [], [], 1, [], 0, [[[((-32), 0), (1, 1)], [(32, 0), ((-1), 1)]]], [], [])
theorem ko_r287 : qCok kc_r287 := sorry
-- 14 jdk/internal/util/Preconditions.checkIndex (('c', 68), ('c', 121), ('s', 2))
def kc_r288 : qCt := (14, 1, [(0, [(68, 0)]), (0, [(121, 0)]), (3, [(2, 0)])], [], [], 1, [], 0, [[[((-68), 0), (1, 1)], [(68, 0), ((-1), 1)]]], [], [])
theorem ko_r288 : qCok kc_r288 := sorry
-- 13 java/lang/String.checkIndex (('c', 68), ('c', 121))
def kc_r289 : qCt := (13, 2, [(0, [(68, 0)]), (0, [(121, 0)])], [], [], 1, [], 9, [[]], [], [])
theorem ko_r289 : qCok kc_r289 := sorry
-- 12 java/lang/StringLatin1.charAt (('s', 1), ('c', 68))
def kc_r290 : qCt := (12, 3, [(3, [(1, 0)]), (0, [(68, 0)])], [], [], 1, [], 0, [[[((-108), 0), (1, 1)], [(108, 0), ((-1), 1)]]], [], [])
theorem ko_r290 : qCok kc_r290 := sorry
-- 10 java/lang/String.charAt (('s', 0), ('c', 68))
def kc_r291 : qCt := (10, 4, [(3, []), (0, [(68, 0)])], [], [], 1, [], 0, [[[((-108), 0), (1, 1)], [(108, 0), ((-1), 1)]]], [], [])
theorem ko_r291 : qCok kc_r291 := sorry
-- 14 jdk/internal/util/Preconditions.checkIndex (('c', 69), ('c', 121), ('s', 2))
def kc_r292 : qCt := (14, 1, [(0, [(69, 0)]), (0, [(121, 0)]), (3, [(2, 0)])], [], [], 1, [], 0, [[[((-69), 0), (1, 1)], [(69, 0), ((-1), 1)]]], [], [])
theorem ko_r292 : qCok kc_r292 := sorry
-- 13 java/lang/String.checkIndex (('c', 69), ('c', 121))
def kc_r293 : qCt := (13, 2, [(0, [(69, 0)]), (0, [(121, 0)])], [], [], 1, [], 9, [[]], [], [])
theorem ko_r293 : qCok kc_r293 := sorry
-- 12 java/lang/StringLatin1.charAt (('s', 1), ('c', 69))
def kc_r294 : qCt := (12, 3, [(3, [(1, 0)]), (0, [(69, 0)])], [], [], 1, [], 0, [[[((-105), 0), (1, 1)], [(105, 0), ((-1), 1)]]], [], [])
theorem ko_r294 : qCok kc_r294 := sorry
-- 10 java/lang/String.charAt (('s', 0), ('c', 69))
def kc_r295 : qCt := (10, 4, [(3, []), (0, [(69, 0)])], [], [], 1, [], 0, [[[((-105), 0), (1, 1)], [(105, 0), ((-1), 1)]]], [], [])
theorem ko_r295 : qCok kc_r295 := sorry
-- 14 jdk/internal/util/Preconditions.checkIndex (('c', 70), ('c', 121), ('s', 2))
def kc_r296 : qCt := (14, 1, [(0, [(70, 0)]), (0, [(121, 0)]), (3, [(2, 0)])], [], [], 1, [], 0, [[[((-70), 0), (1, 1)], [(70, 0), ((-1), 1)]]], [], [])
theorem ko_r296 : qCok kc_r296 := sorry
-- 13 java/lang/String.checkIndex (('c', 70), ('c', 121))
def kc_r297 : qCt := (13, 2, [(0, [(70, 0)]), (0, [(121, 0)])], [], [], 1, [], 9, [[]], [], [])
theorem ko_r297 : qCok kc_r297 := sorry
-- 12 java/lang/StringLatin1.charAt (('s', 1), ('c', 70))
def kc_r298 : qCt := (12, 3, [(3, [(1, 0)]), (0, [(70, 0)])], [], [], 1, [], 0, [[[((-102), 0), (1, 1)], [(102, 0), ((-1), 1)]]], [], [])
theorem ko_r298 : qCok kc_r298 := sorry
-- 10 java/lang/String.charAt (('s', 0), ('c', 70))
def kc_r299 : qCt := (10, 4, [(3, []), (0, [(70, 0)])], [], [], 1, [], 0, [[[((-102), 0), (1, 1)], [(102, 0), ((-1), 1)]]], [], [])
theorem ko_r299 : qCok kc_r299 := sorry
-- 14 jdk/internal/util/Preconditions.checkIndex (('c', 71), ('c', 121), ('s', 2))
def kc_r300 : qCt := (14, 1, [(0, [(71, 0)]), (0, [(121, 0)]), (3, [(2, 0)])], [], [], 1, [], 0, [[[((-71), 0), (1, 1)], [(71, 0), ((-1), 1)]]], [], [])
theorem ko_r300 : qCok kc_r300 := sorry
-- 13 java/lang/String.checkIndex (('c', 71), ('c', 121))
def kc_r301 : qCt := (13, 2, [(0, [(71, 0)]), (0, [(121, 0)])], [], [], 1, [], 9, [[]], [], [])
theorem ko_r301 : qCok kc_r301 := sorry
-- 12 java/lang/StringLatin1.charAt (('s', 1), ('c', 71))
def kc_r302 : qCt := (12, 3, [(3, [(1, 0)]), (0, [(71, 0)])], [], [], 1, [], 0, [[[((-116), 0), (1, 1)], [(116, 0), ((-1), 1)]]], [], [])
theorem ko_r302 : qCok kc_r302 := sorry
-- 10 java/lang/String.charAt (('s', 0), ('c', 71))
def kc_r303 : qCt := (10, 4, [(3, []), (0, [(71, 0)])], [], [], 1, [], 0, [[[((-116), 0), (1, 1)], [(116, 0), ((-1), 1)]]], [], [])
theorem ko_r303 : qCok kc_r303 := sorry
-- 14 jdk/internal/util/Preconditions.checkIndex (('c', 72), ('c', 121), ('s', 2))
def kc_r304 : qCt := (14, 1, [(0, [(72, 0)]), (0, [(121, 0)]), (3, [(2, 0)])], [], [], 1, [], 0, [[[((-72), 0), (1, 1)], [(72, 0), ((-1), 1)]]], [], [])
theorem ko_r304 : qCok kc_r304 := sorry
-- 13 java/lang/String.checkIndex (('c', 72), ('c', 121))
def kc_r305 : qCt := (13, 2, [(0, [(72, 0)]), (0, [(121, 0)])], [], [], 1, [], 9, [[]], [], [])
theorem ko_r305 : qCok kc_r305 := sorry
-- 12 java/lang/StringLatin1.charAt (('s', 1), ('c', 72))
def kc_r306 : qCt := (12, 3, [(3, [(1, 0)]), (0, [(72, 0)])], [], [], 1, [], 0, [[[((-32), 0), (1, 1)], [(32, 0), ((-1), 1)]]], [], [])
theorem ko_r306 : qCok kc_r306 := sorry
-- 10 java/lang/String.charAt (('s', 0), ('c', 72))
def kc_r307 : qCt := (10, 4, [(3, []), (0, [(72, 0)])], [], [], 1, [], 0, [[[((-32), 0), (1, 1)], [(32, 0), ((-1), 1)]]], [], [])
theorem ko_r307 : qCok kc_r307 := sorry
-- 14 jdk/internal/util/Preconditions.checkIndex (('c', 73), ('c', 121), ('s', 2))
def kc_r308 : qCt := (14, 1, [(0, [(73, 0)]), (0, [(121, 0)]), (3, [(2, 0)])], [], [], 1, [], 0, [[[((-73), 0), (1, 1)], [(73, 0), ((-1), 1)]]], [], [])
theorem ko_r308 : qCok kc_r308 := sorry
-- 13 java/lang/String.checkIndex (('c', 73), ('c', 121))
def kc_r309 : qCt := (13, 2, [(0, [(73, 0)]), (0, [(121, 0)])], [], [], 1, [], 9, [[]], [], [])
theorem ko_r309 : qCok kc_r309 := sorry
-- 12 java/lang/StringLatin1.charAt (('s', 1), ('c', 73))
def kc_r310 : qCt := (12, 3, [(3, [(1, 0)]), (0, [(73, 0)])], [], [], 1, [], 0, [[[((-112), 0), (1, 1)], [(112, 0), ((-1), 1)]]], [], [])
theorem ko_r310 : qCok kc_r310 := sorry
-- 10 java/lang/String.charAt (('s', 0), ('c', 73))
def kc_r311 : qCt := (10, 4, [(3, []), (0, [(73, 0)])], [], [], 1, [], 0, [[[((-112), 0), (1, 1)], [(112, 0), ((-1), 1)]]], [], [])
theorem ko_r311 : qCok kc_r311 := sorry
-- 14 jdk/internal/util/Preconditions.checkIndex (('c', 74), ('c', 121), ('s', 2))
def kc_r312 : qCt := (14, 1, [(0, [(74, 0)]), (0, [(121, 0)]), (3, [(2, 0)])], [], [], 1, [], 0, [[[((-74), 0), (1, 1)], [(74, 0), ((-1), 1)]]], [], [])
theorem ko_r312 : qCok kc_r312 := sorry
-- 13 java/lang/String.checkIndex (('c', 74), ('c', 121))
def kc_r313 : qCt := (13, 2, [(0, [(74, 0)]), (0, [(121, 0)])], [], [], 1, [], 9, [[]], [], [])
theorem ko_r313 : qCok kc_r313 := sorry
-- 12 java/lang/StringLatin1.charAt (('s', 1), ('c', 74))
def kc_r314 : qCt := (12, 3, [(3, [(1, 0)]), (0, [(74, 0)])], [], [], 1, [], 0, [[[((-117), 0), (1, 1)], [(117, 0), ((-1), 1)]]], [], [])
theorem ko_r314 : qCok kc_r314 := sorry
-- 10 java/lang/String.charAt (('s', 0), ('c', 74))
def kc_r315 : qCt := (10, 4, [(3, []), (0, [(74, 0)])], [], [], 1, [], 0, [[[((-117), 0), (1, 1)], [(117, 0), ((-1), 1)]]], [], [])
theorem ko_r315 : qCok kc_r315 := sorry
-- 14 jdk/internal/util/Preconditions.checkIndex (('c', 75), ('c', 121), ('s', 2))
def kc_r316 : qCt := (14, 1, [(0, [(75, 0)]), (0, [(121, 0)]), (3, [(2, 0)])], [], [], 1, [], 0, [[[((-75), 0), (1, 1)], [(75, 0), ((-1), 1)]]], [], [])
theorem ko_r316 : qCok kc_r316 := sorry
-- 13 java/lang/String.checkIndex (('c', 75), ('c', 121))
def kc_r317 : qCt := (13, 2, [(0, [(75, 0)]), (0, [(121, 0)])], [], [], 1, [], 9, [[]], [], [])
theorem ko_r317 : qCok kc_r317 := sorry
-- 12 java/lang/StringLatin1.charAt (('s', 1), ('c', 75))
def kc_r318 : qCt := (12, 3, [(3, [(1, 0)]), (0, [(75, 0)])], [], [], 1, [], 0, [[[((-108), 0), (1, 1)], [(108, 0), ((-1), 1)]]], [], [])
theorem ko_r318 : qCok kc_r318 := sorry
-- 10 java/lang/String.charAt (('s', 0), ('c', 75))
def kc_r319 : qCt := (10, 4, [(3, []), (0, [(75, 0)])], [], [], 1, [], 0, [[[((-108), 0), (1, 1)], [(108, 0), ((-1), 1)]]], [], [])
theorem ko_r319 : qCok kc_r319 := sorry
-- 14 jdk/internal/util/Preconditions.checkIndex (('c', 76), ('c', 121), ('s', 2))
def kc_r320 : qCt := (14, 1, [(0, [(76, 0)]), (0, [(121, 0)]), (3, [(2, 0)])], [], [], 1, [], 0, [[[((-76), 0), (1, 1)], [(76, 0), ((-1), 1)]]], [], [])
theorem ko_r320 : qCok kc_r320 := sorry
-- 13 java/lang/String.checkIndex (('c', 76), ('c', 121))
def kc_r321 : qCt := (13, 2, [(0, [(76, 0)]), (0, [(121, 0)])], [], [], 1, [], 9, [[]], [], [])
theorem ko_r321 : qCok kc_r321 := sorry
-- 12 java/lang/StringLatin1.charAt (('s', 1), ('c', 76))
def kc_r322 : qCt := (12, 3, [(3, [(1, 0)]), (0, [(76, 0)])], [], [], 1, [], 0, [[[((-108), 0), (1, 1)], [(108, 0), ((-1), 1)]]], [], [])
theorem ko_r322 : qCok kc_r322 := sorry
-- 10 java/lang/String.charAt (('s', 0), ('c', 76))
def kc_r323 : qCt := (10, 4, [(3, []), (0, [(76, 0)])], [], [], 1, [], 0, [[[((-108), 0), (1, 1)], [(108, 0), ((-1), 1)]]], [], [])
theorem ko_r323 : qCok kc_r323 := sorry
-- 14 jdk/internal/util/Preconditions.checkIndex (('c', 77), ('c', 121), ('s', 2))
def kc_r324 : qCt := (14, 1, [(0, [(77, 0)]), (0, [(121, 0)]), (3, [(2, 0)])], [], [], 1, [], 0, [[[((-77), 0), (1, 1)], [(77, 0), ((-1), 1)]]], [], [])
theorem ko_r324 : qCok kc_r324 := sorry
-- 13 java/lang/String.checkIndex (('c', 77), ('c', 121))
def kc_r325 : qCt := (13, 2, [(0, [(77, 0)]), (0, [(121, 0)])], [], [], 1, [], 9, [[]], [], [])
theorem ko_r325 : qCok kc_r325 := sorry
-- 12 java/lang/StringLatin1.charAt (('s', 1), ('c', 77))
def kc_r326 : qCt := (12, 3, [(3, [(1, 0)]), (0, [(77, 0)])], [], [], 1, [], 0, [[[((-32), 0), (1, 1)], [(32, 0), ((-1), 1)]]], [], [])
theorem ko_r326 : qCok kc_r326 := sorry
-- 10 java/lang/String.charAt (('s', 0), ('c', 77))
def kc_r327 : qCt := (10, 4, [(3, []), (0, [(77, 0)])], [], [], 1, [], 0, [[[((-32), 0), (1, 1)], [(32, 0), ((-1), 1)]]], [], [])
theorem ko_r327 : qCok kc_r327 := sorry
-- 14 jdk/internal/util/Preconditions.checkIndex (('c', 78), ('c', 121), ('s', 2))
def kc_r328 : qCt := (14, 1, [(0, [(78, 0)]), (0, [(121, 0)]), (3, [(2, 0)])], [], [], 1, [], 0, [[[((-78), 0), (1, 1)], [(78, 0), ((-1), 1)]]], [], [])
theorem ko_r328 : qCok kc_r328 := sorry
-- 13 java/lang/String.checkIndex (('c', 78), ('c', 121))
def kc_r329 : qCt := (13, 2, [(0, [(78, 0)]), (0, [(121, 0)])], [], [], 1, [], 9, [[]], [], [])
theorem ko_r329 : qCok kc_r329 := sorry
-- 12 java/lang/StringLatin1.charAt (('s', 1), ('c', 78))
def kc_r330 : qCt := (12, 3, [(3, [(1, 0)]), (0, [(78, 0)])], [], [], 1, [], 0, [[[((-111), 0), (1, 1)], [(111, 0), ((-1), 1)]]], [], [])
theorem ko_r330 : qCok kc_r330 := sorry
-- 10 java/lang/String.charAt (('s', 0), ('c', 78))
def kc_r331 : qCt := (10, 4, [(3, []), (0, [(78, 0)])], [], [], 1, [], 0, [[[((-111), 0), (1, 1)], [(111, 0), ((-1), 1)]]], [], [])
theorem ko_r331 : qCok kc_r331 := sorry
-- 14 jdk/internal/util/Preconditions.checkIndex (('c', 79), ('c', 121), ('s', 2))
def kc_r332 : qCt := (14, 1, [(0, [(79, 0)]), (0, [(121, 0)]), (3, [(2, 0)])], [], [], 1, [], 0, [[[((-79), 0), (1, 1)], [(79, 0), ((-1), 1)]]], [], [])
theorem ko_r332 : qCok kc_r332 := sorry
-- 13 java/lang/String.checkIndex (('c', 79), ('c', 121))
def kc_r333 : qCt := (13, 2, [(0, [(79, 0)]), (0, [(121, 0)])], [], [], 1, [], 9, [[]], [], [])
theorem ko_r333 : qCok kc_r333 := sorry
-- 12 java/lang/StringLatin1.charAt (('s', 1), ('c', 79))
def kc_r334 : qCt := (12, 3, [(3, [(1, 0)]), (0, [(79, 0)])], [], [], 1, [], 0, [[[((-114), 0), (1, 1)], [(114, 0), ((-1), 1)]]], [], [])
theorem ko_r334 : qCok kc_r334 := sorry
-- 10 java/lang/String.charAt (('s', 0), ('c', 79))
def kc_r335 : qCt := (10, 4, [(3, []), (0, [(79, 0)])], [], [], 1, [], 0, [[[((-114), 0), (1, 1)], [(114, 0), ((-1), 1)]]], [], [])
theorem ko_r335 : qCok kc_r335 := sorry
-- 14 jdk/internal/util/Preconditions.checkIndex (('c', 80), ('c', 121), ('s', 2))
def kc_r336 : qCt := (14, 1, [(0, [(80, 0)]), (0, [(121, 0)]), (3, [(2, 0)])], [], [], 1, [], 0, [[[((-80), 0), (1, 1)], [(80, 0), ((-1), 1)]]], [], [])
theorem ko_r336 : qCok kc_r336 := sorry
-- 13 java/lang/String.checkIndex (('c', 80), ('c', 121))
def kc_r337 : qCt := (13, 2, [(0, [(80, 0)]), (0, [(121, 0)])], [], [], 1, [], 9, [[]], [], [])
theorem ko_r337 : qCok kc_r337 := sorry
-- 12 java/lang/StringLatin1.charAt (('s', 1), ('c', 80))
def kc_r338 : qCt := (12, 3, [(3, [(1, 0)]), (0, [(80, 0)])], [], [], 1, [], 0, [[[((-32), 0), (1, 1)], [(32, 0), ((-1), 1)]]], [], [])
theorem ko_r338 : qCok kc_r338 := sorry
-- 10 java/lang/String.charAt (('s', 0), ('c', 80))
def kc_r339 : qCt := (10, 4, [(3, []), (0, [(80, 0)])], [], [], 1, [], 0, [[[((-32), 0), (1, 1)], [(32, 0), ((-1), 1)]]], [], [])
theorem ko_r339 : qCok kc_r339 := sorry
-- 14 jdk/internal/util/Preconditions.checkIndex (('c', 81), ('c', 121), ('s', 2))
def kc_r340 : qCt := (14, 1, [(0, [(81, 0)]), (0, [(121, 0)]), (3, [(2, 0)])], [], [], 1, [], 0, [[[((-81), 0), (1, 1)], [(81, 0), ((-1), 1)]]], [], [])
theorem ko_r340 : qCok kc_r340 := sorry
-- 13 java/lang/String.checkIndex (('c', 81), ('c', 121))
def kc_r341 : qCt := (13, 2, [(0, [(81, 0)]), (0, [(121, 0)])], [], [], 1, [], 9, [[]], [], [])
theorem ko_r341 : qCok kc_r341 := sorry
-- 12 java/lang/StringLatin1.charAt (('s', 1), ('c', 81))
def kc_r342 : qCt := (12, 3, [(3, [(1, 0)]), (0, [(81, 0)])], [], [], 1, [], 0, [[[((-97), 0), (1, 1)], [(97, 0), ((-1), 1)]]], [], [])
theorem ko_r342 : qCok kc_r342 := sorry
-- 10 java/lang/String.charAt (('s', 0), ('c', 81))
def kc_r343 : qCt := (10, 4, [(3, []), (0, [(81, 0)])], [], [], 1, [], 0, [[[((-97), 0), (1, 1)], [(97, 0), ((-1), 1)]]], [], [])
theorem ko_r343 : qCok kc_r343 := sorry
-- 14 jdk/internal/util/Preconditions.checkIndex (('c', 82), ('c', 121), ('s', 2))
def kc_r344 : qCt := (14, 1, [(0, [(82, 0)]), (0, [(121, 0)]), (3, [(2, 0)])], [], [], 1, [], 0, [[[((-82), 0), (1, 1)], [(82, 0), ((-1), 1)]]], [], [])
theorem ko_r344 : qCok kc_r344 := sorry
-- 13 java/lang/String.checkIndex (('c', 82), ('c', 121))
def kc_r345 : qCt := (13, 2, [(0, [(82, 0)]), (0, [(121, 0)])], [], [], 1, [], 9, [[]], [], [])
theorem ko_r345 : qCok kc_r345 := sorry
-- 12 java/lang/StringLatin1.charAt (('s', 1), ('c', 82))
def kc_r346 : qCt := (12, 3, [(3, [(1, 0)]), (0, [(82, 0)])], [], [], 1, [], 0, [[[((-110), 0), (1, 1)], [(110, 0), ((-1), 1)]]], [], [])
theorem ko_r346 : qCok kc_r346 := sorry
-- 10 java/lang/String.charAt (('s', 0), ('c', 82))
def kc_r347 : qCt := (10, 4, [(3, []), (0, [(82, 0)])], [], [], 1, [], 0, [[[((-110), 0), (1, 1)], [(110, 0), ((-1), 1)]]], [], [])
theorem ko_r347 : qCok kc_r347 := sorry
-- 14 jdk/internal/util/Preconditions.checkIndex (('c', 83), ('c', 121), ('s', 2))
def kc_r348 : qCt := (14, 1, [(0, [(83, 0)]), (0, [(121, 0)]), (3, [(2, 0)])], [], [], 1, [], 0, [[[((-83), 0), (1, 1)], [(83, 0), ((-1), 1)]]], [], [])
theorem ko_r348 : qCok kc_r348 := sorry
-- 13 java/lang/String.checkIndex (('c', 83), ('c', 121))
def kc_r349 : qCt := (13, 2, [(0, [(83, 0)]), (0, [(121, 0)])], [], [], 1, [], 9, [[]], [], [])
theorem ko_r349 : qCok kc_r349 := sorry
-- 12 java/lang/StringLatin1.charAt (('s', 1), ('c', 83))
def kc_r350 : qCt := (12, 3, [(3, [(1, 0)]), (0, [(83, 0)])], [], [], 1, [], 0, [[[((-100), 0), (1, 1)], [(100, 0), ((-1), 1)]]], [], [])
theorem ko_r350 : qCok kc_r350 := sorry
-- 10 java/lang/String.charAt (('s', 0), ('c', 83))
def kc_r351 : qCt := (10, 4, [(3, []), (0, [(83, 0)])], [], [], 1, [], 0, [[[((-100), 0), (1, 1)], [(100, 0), ((-1), 1)]]], [], [])
theorem ko_r351 : qCok kc_r351 := sorry
-- 14 jdk/internal/util/Preconditions.checkIndex (('c', 84), ('c', 121), ('s', 2))
def kc_r352 : qCt := (14, 1, [(0, [(84, 0)]), (0, [(121, 0)]), (3, [(2, 0)])], [], [], 1, [], 0, [[[((-84), 0), (1, 1)], [(84, 0), ((-1), 1)]]], [], [])
theorem ko_r352 : qCok kc_r352 := sorry
-- 13 java/lang/String.checkIndex (('c', 84), ('c', 121))
def kc_r353 : qCt := (13, 2, [(0, [(84, 0)]), (0, [(121, 0)])], [], [], 1, [], 9, [[]], [], [])
theorem ko_r353 : qCok kc_r353 := sorry
-- 12 java/lang/StringLatin1.charAt (('s', 1), ('c', 84))
def kc_r354 : qCt := (12, 3, [(3, [(1, 0)]), (0, [(84, 0)])], [], [], 1, [], 0, [[[((-32), 0), (1, 1)], [(32, 0), ((-1), 1)]]], [], [])
theorem ko_r354 : qCok kc_r354 := sorry
-- 10 java/lang/String.charAt (('s', 0), ('c', 84))
def kc_r355 : qCt := (10, 4, [(3, []), (0, [(84, 0)])], [], [], 1, [], 0, [[[((-32), 0), (1, 1)], [(32, 0), ((-1), 1)]]], [], [])
theorem ko_r355 : qCok kc_r355 := sorry
-- 14 jdk/internal/util/Preconditions.checkIndex (('c', 85), ('c', 121), ('s', 2))
def kc_r356 : qCt := (14, 1, [(0, [(85, 0)]), (0, [(121, 0)]), (3, [(2, 0)])], [], [], 1, [], 0, [[[((-85), 0), (1, 1)], [(85, 0), ((-1), 1)]]], [], [])
theorem ko_r356 : qCok kc_r356 := sorry
-- 13 java/lang/String.checkIndex (('c', 85), ('c', 121))
def kc_r357 : qCt := (13, 2, [(0, [(85, 0)]), (0, [(121, 0)])], [], [], 1, [], 9, [[]], [], [])
theorem ko_r357 : qCok kc_r357 := sorry
-- 12 java/lang/StringLatin1.charAt (('s', 1), ('c', 85))
def kc_r358 : qCt := (12, 3, [(3, [(1, 0)]), (0, [(85, 0)])], [], [], 1, [], 0, [[[((-110), 0), (1, 1)], [(110, 0), ((-1), 1)]]], [], [])
theorem ko_r358 : qCok kc_r358 := sorry
-- 10 java/lang/String.charAt (('s', 0), ('c', 85))
def kc_r359 : qCt := (10, 4, [(3, []), (0, [(85, 0)])], [], [], 1, [], 0, [[[((-110), 0), (1, 1)], [(110, 0), ((-1), 1)]]], [], [])
theorem ko_r359 : qCok kc_r359 := sorry
-- 14 jdk/internal/util/Preconditions.checkIndex (('c', 86), ('c', 121), ('s', 2))
def kc_r360 : qCt := (14, 1, [(0, [(86, 0)]), (0, [(121, 0)]), (3, [(2, 0)])], [], [], 1, [], 0, [[[((-86), 0), (1, 1)], [(86, 0), ((-1), 1)]]], [], [])
theorem ko_r360 : qCok kc_r360 := sorry
-- 13 java/lang/String.checkIndex (('c', 86), ('c', 121))
def kc_r361 : qCt := (13, 2, [(0, [(86, 0)]), (0, [(121, 0)])], [], [], 1, [], 9, [[]], [], [])
theorem ko_r361 : qCok kc_r361 := sorry
-- 12 java/lang/StringLatin1.charAt (('s', 1), ('c', 86))
def kc_r362 : qCt := (12, 3, [(3, [(1, 0)]), (0, [(86, 0)])], [], [], 1, [], 0, [[[((-111), 0), (1, 1)], [(111, 0), ((-1), 1)]]], [], [])
theorem ko_r362 : qCok kc_r362 := sorry
-- 10 java/lang/String.charAt (('s', 0), ('c', 86))
def kc_r363 : qCt := (10, 4, [(3, []), (0, [(86, 0)])], [], [], 1, [], 0, [[[((-111), 0), (1, 1)], [(111, 0), ((-1), 1)]]], [], [])
theorem ko_r363 : qCok kc_r363 := sorry
-- 14 jdk/internal/util/Preconditions.checkIndex (('c', 87), ('c', 121), ('s', 2))
def kc_r364 : qCt := (14, 1, [(0, [(87, 0)]), (0, [(121, 0)]), (3, [(2, 0)])], [], [], 1, [], 0, [[[((-87), 0), (1, 1)], [(87, 0), ((-1), 1)]]], [], [])
theorem ko_r364 : qCok kc_r364 := sorry
-- 13 java/lang/String.checkIndex (('c', 87), ('c', 121))
def kc_r365 : qCt := (13, 2, [(0, [(87, 0)]), (0, [(121, 0)])], [], [], 1, [], 9, [[]], [], [])
theorem ko_r365 : qCok kc_r365 := sorry
-- 12 java/lang/StringLatin1.charAt (('s', 1), ('c', 87))
def kc_r366 : qCt := (12, 3, [(3, [(1, 0)]), (0, [(87, 0)])], [], [], 1, [], 0, [[[((-116), 0), (1, 1)], [(116, 0), ((-1), 1)]]], [], [])
theorem ko_r366 : qCok kc_r366 := sorry
-- 10 java/lang/String.charAt (('s', 0), ('c', 87))
def kc_r367 : qCt := (10, 4, [(3, []), (0, [(87, 0)])], [], [], 1, [], 0, [[[((-116), 0), (1, 1)], [(116, 0), ((-1), 1)]]], [], [])
theorem ko_r367 : qCok kc_r367 := sorry
-- 14 jdk/internal/util/Preconditions.checkIndex (('c', 88), ('c', 121), ('s', 2))
def kc_r368 : qCt := (14, 1, [(0, [(88, 0)]), (0, [(121, 0)]), (3, [(2, 0)])], [], [], 1, [], 0, [[[((-88), 0), (1, 1)], [(88, 0), ((-1), 1)]]], [], [])
theorem ko_r368 : qCok kc_r368 := sorry
-- 13 java/lang/String.checkIndex (('c', 88), ('c', 121))
def kc_r369 : qCt := (13, 2, [(0, [(88, 0)]), (0, [(121, 0)])], [], [], 1, [], 9, [[]], [], [])
theorem ko_r369 : qCok kc_r369 := sorry
-- 12 java/lang/StringLatin1.charAt (('s', 1), ('c', 88))
def kc_r370 : qCt := (12, 3, [(3, [(1, 0)]), (0, [(88, 0)])], [], [], 1, [], 0, [[[((-32), 0), (1, 1)], [(32, 0), ((-1), 1)]]], [], [])
theorem ko_r370 : qCok kc_r370 := sorry
-- 10 java/lang/String.charAt (('s', 0), ('c', 88))
def kc_r371 : qCt := (10, 4, [(3, []), (0, [(88, 0)])], [], [], 1, [], 0, [[[((-32), 0), (1, 1)], [(32, 0), ((-1), 1)]]], [], [])
theorem ko_r371 : qCok kc_r371 := sorry
-- 14 jdk/internal/util/Preconditions.checkIndex (('c', 89), ('c', 121), ('s', 2))
def kc_r372 : qCt := (14, 1, [(0, [(89, 0)]), (0, [(121, 0)]), (3, [(2, 0)])], [], [], 1, [], 0, [[[((-89), 0), (1, 1)], [(89, 0), ((-1), 1)]]], [], [])
theorem ko_r372 : qCok kc_r372 := sorry
-- 13 java/lang/String.checkIndex (('c', 89), ('c', 121))
def kc_r373 : qCt := (13, 2, [(0, [(89, 0)]), (0, [(121, 0)])], [], [], 1, [], 9, [[]], [], [])
theorem ko_r373 : qCok kc_r373 := sorry
-- 12 java/lang/StringLatin1.charAt (('s', 1), ('c', 89))
def kc_r374 : qCt := (12, 3, [(3, [(1, 0)]), (0, [(89, 0)])], [], [], 1, [], 0, [[[((-115), 0), (1, 1)], [(115, 0), ((-1), 1)]]], [], [])
theorem ko_r374 : qCok kc_r374 := sorry
-- 10 java/lang/String.charAt (('s', 0), ('c', 89))
def kc_r375 : qCt := (10, 4, [(3, []), (0, [(89, 0)])], [], [], 1, [], 0, [[[((-115), 0), (1, 1)], [(115, 0), ((-1), 1)]]], [], [])
theorem ko_r375 : qCok kc_r375 := sorry
-- 14 jdk/internal/util/Preconditions.checkIndex (('c', 90), ('c', 121), ('s', 2))
def kc_r376 : qCt := (14, 1, [(0, [(90, 0)]), (0, [(121, 0)]), (3, [(2, 0)])], [], [], 1, [], 0, [[[((-90), 0), (1, 1)], [(90, 0), ((-1), 1)]]], [], [])
theorem ko_r376 : qCok kc_r376 := sorry
-- 13 java/lang/String.checkIndex (('c', 90), ('c', 121))
def kc_r377 : qCt := (13, 2, [(0, [(90, 0)]), (0, [(121, 0)])], [], [], 1, [], 9, [[]], [], [])
theorem ko_r377 : qCok kc_r377 := sorry
