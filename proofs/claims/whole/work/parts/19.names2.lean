def wsX4_termFor : List Cond := .code yX4_termFor cX4_termFor 6 (some .int) :: ([.classLink RX4 78 "java/lang/UnsupportedOperationException", .initialized "java/lang/UnsupportedOperationException", .fieldLink RX4 12 "ArrayClaims" "known" "LArrayClaims$TermTable;", .methodLink RX4 105 yX3_find, .instanceMethod yX3_find, .selects RX3 yX3_find yX3_find, .initialized RX3, .code yX3_find cX3_find 6 (some .int), .fieldLink RX3 24 "ArrayClaims$TermTable" "count" "I", .fieldLink RX3 9 "ArrayClaims$TermTable" "sorts" "[I", .fieldLink RX3 15 "ArrayClaims$TermTable" "arrays" "[I", .fieldLink RX3 18 "ArrayClaims$TermTable" "indices" "[I", .fieldLink RX3 21 "ArrayClaims$TermTable" "elements" "[I", .methodLink RX4 108 yX3_add, .instanceMethod yX3_add, .selects RX3 yX3_add yX3_add, .code yX3_add cX3_add 5 (some .int)] ++ wsX40 ++ wsX30 ++ (vx_at0 RX4 80 "java/lang/UnsupportedOperationException" ["java/lang/RuntimeException", "java/lang/Exception"]).filter goodWord)
def wsX4_select : List Cond := .code yX4_select cX4_select 3 (some .int) :: ((wsX4_select_r1 ++ wsX4_select_r2) ++ wsX40 ++ wsX30 ++ (vx_at0 RX4 49 "java/lang/IndexOutOfBoundsException" ["java/lang/RuntimeException", "java/lang/Exception"]).filter goodWord ++ (vx_at0 RX4 56 "java/lang/IllegalArgumentException" ["java/lang/RuntimeException", "java/lang/Exception"]).filter goodWord ++ (vx_at0 RX4 80 "java/lang/UnsupportedOperationException" ["java/lang/RuntimeException", "java/lang/Exception"]).filter goodWord)
def wsX4_store : List Cond := .code yX4_store cX4_store 4 (some .int) :: ((wsX4_store_r1 ++ wsX4_store_r2) ++ wsX40 ++ wsX30 ++ (vx_at0 RX4 49 "java/lang/IndexOutOfBoundsException" ["java/lang/RuntimeException", "java/lang/Exception"]).filter goodWord ++ (vx_at0 RX4 56 "java/lang/IllegalArgumentException" ["java/lang/RuntimeException", "java/lang/Exception"]).filter goodWord ++ (vx_at0 RX4 80 "java/lang/UnsupportedOperationException" ["java/lang/RuntimeException", "java/lang/Exception"]).filter goodWord)
def wsX4_checkPair : List Cond := .code yX4_checkPair cX4_checkPair 3 none :: ([.classLink RX4 47 "java/lang/IndexOutOfBoundsException", .initialized "java/lang/IndexOutOfBoundsException", .classLink RX4 54 "java/lang/IllegalArgumentException", .initialized "java/lang/IllegalArgumentException", .fieldLink RX4 12 "ArrayClaims" "known" "LArrayClaims$TermTable;", .methodLink RX4 43 yX3_has, .instanceMethod yX3_has, .selects RX3 yX3_has yX3_has, .initialized RX3, .code yX3_has cX3_has 2 (some .boolean), .fieldLink RX3 24 "ArrayClaims$TermTable" "count" "I", .methodLink RX4 50 yX3_sortOf, .instanceMethod yX3_sortOf, .selects RX3 yX3_sortOf yX3_sortOf, .code yX3_sortOf cX3_sortOf 2 (some .int), .fieldLink RX3 9 "ArrayClaims$TermTable" "sorts" "[I", .methodLink RX3 28 yX3_has] ++ wsX40 ++ wsX30 ++ (vx_at0 RX4 49 "java/lang/IndexOutOfBoundsException" ["java/lang/RuntimeException", "java/lang/Exception"]).filter goodWord ++ (vx_at0 RX4 56 "java/lang/IllegalArgumentException" ["java/lang/RuntimeException", "java/lang/Exception"]).filter goodWord)
def wsX4_literal : List Cond := .code yX4_literal cX4_literal 4 (some .int) :: ((wsX4_literal_r1 ++ wsX4_literal_r2) ++ wsX40 ++ wsX30 ++ (vx_at0 RX4 70 "java/lang/IllegalStateException" ["java/lang/RuntimeException", "java/lang/Exception"]).filter goodWord ++ (vx_at0 RX4 49 "java/lang/IndexOutOfBoundsException" ["java/lang/RuntimeException", "java/lang/Exception"]).filter goodWord ++ (vx_at0 RX4 56 "java/lang/IllegalArgumentException" ["java/lang/RuntimeException", "java/lang/Exception"]).filter goodWord)
def wsX4_claim : List Cond := .code yX4_claim cX4_claim 1 (some .int) :: ([.classLink RX4 68 "java/lang/IllegalStateException", .initialized "java/lang/IllegalStateException", .classLink RX4 78 "java/lang/UnsupportedOperationException", .initialized "java/lang/UnsupportedOperationException", .fieldLink RX4 29 "ArrayClaims" "draftSize" "I", .fieldLink RX4 21 "ArrayClaims" "made" "LArrayClaims$ClaimList;", .fieldLink RX4 25 "ArrayClaims" "drafted" "[I", .methodLink RX4 81 yX0_add, .instanceMethod yX0_add, .selects RX0 yX0_add yX0_add, .initialized RX0, .code yX0_add cX0_add 5 none, .fieldLink RX0 18 "ArrayClaims$ClaimList" "count" "I", .fieldLink RX0 15 "ArrayClaims$ClaimList" "sizes" "[I", .fieldLink RX0 9 "ArrayClaims$ClaimList" "literals" "[I"] ++ wsX40 ++ wsX00 ++ (vx_at0 RX4 70 "java/lang/IllegalStateException" ["java/lang/RuntimeException", "java/lang/Exception"]).filter goodWord ++ (vx_at0 RX4 80 "java/lang/UnsupportedOperationException" ["java/lang/RuntimeException", "java/lang/Exception"]).filter goodWord)
def wsX4_without : List Cond := .code yX4_without cX4_without 2 (some .boolean) :: ((wsX4_without_r1 ++ (wsX4_without_r2 ++ (wsX4_without_r3 ++ (wsX4_without_r4 ++ wsX4_without_r5)))) ++ wsX40 ++ wsX00 ++ wsX20 ++ wsX30 ++ (vx_at0 RX4 49 "java/lang/IndexOutOfBoundsException" ["java/lang/RuntimeException", "java/lang/Exception"]).filter goodWord)
def wsX4_same : List Cond := .code yX4_same cX4_same 5 (some .int) :: ((wsX4_same_r1 ++ (wsX4_same_r2 ++ (wsX4_same_r3 ++ (wsX4_same_r4 ++ (wsX4_same_r5 ++ wsX4_same_r6))))) ++ wsX40 ++ wsX00 ++ wsX30 ++ wsX20 ++ (vx_at0 RX4 70 "java/lang/IllegalStateException" ["java/lang/RuntimeException", "java/lang/Exception"]).filter goodWord ++ (vx_at0 RX4 49 "java/lang/IndexOutOfBoundsException" ["java/lang/RuntimeException", "java/lang/Exception"]).filter goodWord ++ (vx_at0 RX4 56 "java/lang/IllegalArgumentException" ["java/lang/RuntimeException", "java/lang/Exception"]).filter goodWord)
def wsX4_follows : List Cond := .code yX4_follows cX4_follows 2 (some .boolean) :: ((wsX4_follows_r1 ++ (wsX4_follows_r2 ++ (wsX4_follows_r3 ++ (wsX4_follows_r4 ++ wsX4_follows_r5)))) ++ wsX40 ++ wsX00 ++ wsX20 ++ wsX30 ++ (vx_at0 RX4 70 "java/lang/IllegalStateException" ["java/lang/RuntimeException", "java/lang/Exception"]).filter goodWord)
def wsX4_apart : List Cond := .code yX4_apart cX4_apart 4 (some .int) :: ((wsX4_apart_r1 ++ (wsX4_apart_r2 ++ (wsX4_apart_r3 ++ wsX4_apart_r4))) ++ wsX40 ++ wsX00 ++ wsX20 ++ wsX30 ++ (vx_at0 RX4 70 "java/lang/IllegalStateException" ["java/lang/RuntimeException", "java/lang/Exception"]).filter goodWord)
set_option maxRecDepth 20000 in
theorem ggX4_select_X3_has : GoodIn wsX4_select wsX3_has := goodIn_r _ [10, 11, 42, 43, 44, 45, 46] (by decide +kernel) (by decide +kernel)
set_option maxRecDepth 20000 in
theorem gX4_select_X3_has : GoodIn wsX4_select (wsV RX4 43 RX3 yX3_has wsX3_has) := goodIn_app (goodIn_of _ (by decide +kernel)) ggX4_select_X3_has
set_option maxRecDepth 20000 in
theorem ggX4_select_X3_sortOf : GoodIn wsX4_select wsX3_sortOf := goodIn_r _ [15, 16, 17, 7, 8, 9, 10, 11, 42, 43, 44, 45, 46] (by decide +kernel) (by decide +kernel)
set_option maxRecDepth 20000 in
theorem gX4_select_X3_sortOf : GoodIn wsX4_select (wsV RX4 50 RX3 yX3_sortOf wsX3_sortOf) := goodIn_app (goodIn_of _ (by decide +kernel)) ggX4_select_X3_sortOf
set_option maxRecDepth 20000 in
theorem ggX4_select_X4_termFor : GoodIn wsX4_select wsX4_termFor := goodIn_ca (goodIn_r _ [22, 23, 24, 5, 25, 26, 27, 9, 28, 11, 16, 29, 30, 31, 32, 33, 34, 35, 36, 37, 38, 39, 40, 41, 42, 43, 44, 45, 46] (by decide +kernel) (by decide +kernel)) (goodIn_sub (fun _ h => List.mem_cons_of_mem _ (List.mem_append_right _ h)) (by decide +kernel))
set_option maxRecDepth 20000 in
theorem gX4_select_X4_termFor : GoodIn wsX4_select (wsV RX4 57 RX4 yX4_termFor wsX4_termFor) := goodIn_app (goodIn_of _ (by decide +kernel)) ggX4_select_X4_termFor
set_option maxRecDepth 20000 in
theorem ggX4_store_X3_has : GoodIn wsX4_store wsX3_has := goodIn_r _ [10, 11, 42, 43, 44, 45, 46] (by decide +kernel) (by decide +kernel)
set_option maxRecDepth 20000 in
theorem gX4_store_X3_has : GoodIn wsX4_store (wsV RX4 43 RX3 yX3_has wsX3_has) := goodIn_app (goodIn_of _ (by decide +kernel)) ggX4_store_X3_has
set_option maxRecDepth 20000 in
theorem ggX4_store_X3_sortOf : GoodIn wsX4_store wsX3_sortOf := goodIn_r _ [15, 16, 17, 7, 8, 9, 10, 11, 42, 43, 44, 45, 46] (by decide +kernel) (by decide +kernel)
set_option maxRecDepth 20000 in
theorem gX4_store_X3_sortOf : GoodIn wsX4_store (wsV RX4 50 RX3 yX3_sortOf wsX3_sortOf) := goodIn_app (goodIn_of _ (by decide +kernel)) ggX4_store_X3_sortOf
set_option maxRecDepth 20000 in
theorem ggX4_store_X4_termFor : GoodIn wsX4_store wsX4_termFor := goodIn_ca (goodIn_r _ [22, 23, 24, 5, 25, 26, 27, 9, 28, 11, 16, 29, 30, 31, 32, 33, 34, 35, 36, 37, 38, 39, 40, 41, 42, 43, 44, 45, 46] (by decide +kernel) (by decide +kernel)) (goodIn_sub (fun _ h => List.mem_cons_of_mem _ (List.mem_append_right _ h)) (by decide +kernel))
set_option maxRecDepth 20000 in
theorem gX4_store_X4_termFor : GoodIn wsX4_store (wsV RX4 57 RX4 yX4_termFor wsX4_termFor) := goodIn_app (goodIn_of _ (by decide +kernel)) ggX4_store_X4_termFor
set_option maxRecDepth 20000 in
theorem ggX4_literal_X4_checkPair : GoodIn wsX4_literal wsX4_checkPair := goodIn_ca (goodIn_ca (goodIn_r _ [9, 10, 11, 12, 13, 14, 15, 16, 17, 18, 19, 20, 21, 22, 23, 24, 25, 26, 31, 32, 33, 34, 35, 36, 37, 38, 39, 40, 41] (by decide +kernel) (by decide +kernel)) (goodIn_sub (fun _ h => List.mem_cons_of_mem _ (List.mem_append_left _ (List.mem_append_right _ h))) (by decide +kernel))) (goodIn_sub (fun _ h => List.mem_cons_of_mem _ (List.mem_append_right _ h)) (by decide +kernel))
set_option maxRecDepth 20000 in
theorem gX4_literal_X4_checkPair : GoodIn wsX4_literal (wsV RX4 64 RX4 yX4_checkPair wsX4_checkPair) := goodIn_app (goodIn_of _ (by decide +kernel)) ggX4_literal_X4_checkPair
set_option maxRecDepth 20000 in
theorem ggX4_literal_X1_of : GoodIn wsX4_literal wsX1_of := goodIn_r _ [30] (by decide +kernel) (by decide +kernel)
set_option maxRecDepth 20000 in
theorem gX4_literal_X1_of : GoodIn wsX4_literal (va_wsS RX4 71 yX1_of wsX1_of) := goodIn_app (goodIn_of _ (by decide +kernel)) ggX4_literal_X1_of
set_option maxRecDepth 20000 in
theorem ggX4_claim_X0_add : GoodIn wsX4_claim wsX0_add := goodIn_r _ [12, 13, 14, 15, 22, 23, 24] (by decide +kernel) (by decide +kernel)
set_option maxRecDepth 20000 in
theorem gX4_claim_X0_add : GoodIn wsX4_claim (wsV RX4 81 RX0 yX0_add wsX0_add) := goodIn_app (goodIn_of _ (by decide +kernel)) ggX4_claim_X0_add
set_option maxRecDepth 20000 in
theorem ggX4_without_X4_askClaims : GoodIn wsX4_without wsX4_askClaims := goodIn_r _ [8, 9, 3, 10, 11, 12, 13, 14, 15, 16, 17, 18, 19, 20, 21, 22, 23, 24, 25, 101, 102, 103, 104, 105, 106, 107, 108, 109] (by decide +kernel) (by decide +kernel)
set_option maxRecDepth 20000 in
theorem gX4_without_X4_askClaims : GoodIn wsX4_without (wsV RX4 88 RX4 yX4_askClaims wsX4_askClaims) := goodIn_app (goodIn_of _ (by decide +kernel)) ggX4_without_X4_askClaims
set_option maxRecDepth 20000 in
theorem ggX4_without_X4_isPossible : GoodIn wsX4_without wsX4_isPossible := goodIn_r _ [29, 30, 31, 9, 32, 33, 34, 35, 36, 37, 38, 39, 40, 41, 42, 43, 44, 45, 46, 47, 48, 49, 50, 51, 52, 53, 54, 55, 56, 57, 58, 59, 60, 61, 62, 63, 64, 65, 66, 13, 67, 21, 68, 69, 70, 71, 20, 72, 73, 74, 75, 76, 77, 78, 79, 80, 81, 82, 83, 84, 85, 86, 87, 88, 89, 90, 91, 92, 93, 94, 95, 96, 97, 98, 99, 100, 101, 102, 103, 104, 105, 106, 110, 111, 112, 113, 114, 115, 116, 107, 108, 109] (by decide +kernel) (by decide +kernel)
set_option maxRecDepth 20000 in
theorem gX4_without_X4_isPossible : GoodIn wsX4_without (wsV RX4 91 RX4 yX4_isPossible wsX4_isPossible) := goodIn_app (goodIn_of _ (by decide +kernel)) ggX4_without_X4_isPossible
set_option maxRecDepth 20000 in
theorem ggX4_same_X4_checkPair : GoodIn wsX4_same wsX4_checkPair := goodIn_ca (goodIn_ca (goodIn_r _ [9, 10, 11, 12, 13, 14, 15, 16, 17, 18, 19, 20, 21, 22, 23, 24, 25, 26, 128, 129, 130, 131, 132, 133, 137, 138, 139, 140, 141] (by decide +kernel) (by decide +kernel)) (goodIn_sub (fun _ h => List.mem_cons_of_mem _ (List.mem_append_left _ (List.mem_append_right _ h))) (by decide +kernel))) (goodIn_sub (fun _ h => List.mem_cons_of_mem _ (List.mem_append_right _ h)) (by decide +kernel))
set_option maxRecDepth 20000 in
theorem gX4_same_X4_checkPair : GoodIn wsX4_same (wsV RX4 64 RX4 yX4_checkPair wsX4_checkPair) := goodIn_app (goodIn_of _ (by decide +kernel)) ggX4_same_X4_checkPair
set_option maxRecDepth 20000 in
theorem ggX4_same_X4_askClaims : GoodIn wsX4_same wsX4_askClaims := goodIn_r _ [30, 4, 3, 31, 32, 33, 34, 35, 36, 37, 38, 39, 40, 41, 42, 43, 44, 45, 46, 128, 129, 130, 131, 132, 133, 134, 135, 136] (by decide +kernel) (by decide +kernel)
set_option maxRecDepth 20000 in
theorem gX4_same_X4_askClaims : GoodIn wsX4_same (wsV RX4 88 RX4 yX4_askClaims wsX4_askClaims) := goodIn_app (goodIn_of _ (by decide +kernel)) ggX4_same_X4_askClaims
set_option maxRecDepth 20000 in
theorem ggX4_same_X1_of : GoodIn wsX4_same wsX1_of := goodIn_r _ [50] (by decide +kernel) (by decide +kernel)
set_option maxRecDepth 20000 in
theorem gX4_same_X1_of : GoodIn wsX4_same (va_wsS RX4 71 yX1_of wsX1_of) := goodIn_app (goodIn_of _ (by decide +kernel)) ggX4_same_X1_of
set_option maxRecDepth 20000 in
theorem ggX4_same_X0_addSingle : GoodIn wsX4_same wsX0_addSingle := goodIn_r _ [54, 36, 42, 41, 134, 135, 136] (by decide +kernel) (by decide +kernel)
set_option maxRecDepth 20000 in
theorem gX4_same_X0_addSingle : GoodIn wsX4_same (wsV RX4 95 RX0 yX0_addSingle wsX0_addSingle) := goodIn_app (goodIn_of _ (by decide +kernel)) ggX4_same_X0_addSingle
set_option maxRecDepth 20000 in
theorem ggX4_same_X4_isPossible : GoodIn wsX4_same wsX4_isPossible := goodIn_r _ [58, 59, 14, 4, 60, 61, 62, 63, 64, 65, 66, 67, 68, 69, 70, 71, 72, 73, 74, 75, 76, 77, 78, 79, 80, 81, 82, 83, 84, 85, 86, 87, 88, 89, 90, 91, 92, 93, 94, 34, 95, 42, 96, 97, 98, 99, 41, 100, 101, 102, 103, 104, 105, 49, 106, 107, 108, 109, 110, 111, 112, 113, 114, 115, 116, 117, 118, 119, 120, 121, 122, 123, 124, 125, 126, 127, 128, 129, 130, 131, 132, 133, 142, 143, 137, 138, 139, 140, 141, 134, 135, 136] (by decide +kernel) (by decide +kernel)
set_option maxRecDepth 20000 in
theorem gX4_same_X4_isPossible : GoodIn wsX4_same (wsV RX4 91 RX4 yX4_isPossible wsX4_isPossible) := goodIn_app (goodIn_of _ (by decide +kernel)) ggX4_same_X4_isPossible
set_option maxRecDepth 20000 in
theorem ggX4_same_X0_cutTo : GoodIn wsX4_same wsX0_cutTo := goodIn_r _ [35, 36, 134, 135, 136] (by decide +kernel) (by decide +kernel)
set_option maxRecDepth 20000 in
theorem gX4_same_X0_cutTo : GoodIn wsX4_same (wsV RX4 85 RX0 yX0_cutTo wsX0_cutTo) := goodIn_app (goodIn_of _ (by decide +kernel)) ggX4_same_X0_cutTo
set_option maxRecDepth 20000 in
theorem ggX4_follows_X4_askClaims : GoodIn wsX4_follows wsX4_askClaims := goodIn_r _ [11, 5, 4, 12, 13, 14, 15, 16, 17, 18, 19, 20, 21, 22, 23, 24, 25, 26, 27, 110, 111, 112, 113, 114, 115, 116, 117, 118] (by decide +kernel) (by decide +kernel)
set_option maxRecDepth 20000 in
theorem gX4_follows_X4_askClaims : GoodIn wsX4_follows (wsV RX4 88 RX4 yX4_askClaims wsX4_askClaims) := goodIn_app (goodIn_of _ (by decide +kernel)) ggX4_follows_X4_askClaims
set_option maxRecDepth 20000 in
theorem ggX4_follows_X1_opposite : GoodIn wsX4_follows wsX1_opposite := goodIn_r _ [31] (by decide +kernel) (by decide +kernel)
set_option maxRecDepth 20000 in
theorem gX4_follows_X1_opposite : GoodIn wsX4_follows (va_wsS RX4 98 yX1_opposite wsX1_opposite) := goodIn_app (goodIn_of _ (by decide +kernel)) ggX4_follows_X1_opposite
set_option maxRecDepth 20000 in
theorem ggX4_follows_X0_addSingle : GoodIn wsX4_follows wsX0_addSingle := goodIn_r _ [35, 17, 23, 22, 116, 117, 118] (by decide +kernel) (by decide +kernel)
set_option maxRecDepth 20000 in
theorem gX4_follows_X0_addSingle : GoodIn wsX4_follows (wsV RX4 95 RX0 yX0_addSingle wsX0_addSingle) := goodIn_app (goodIn_of _ (by decide +kernel)) ggX4_follows_X0_addSingle
set_option maxRecDepth 20000 in
theorem ggX4_follows_X4_isPossible : GoodIn wsX4_follows wsX4_isPossible := goodIn_r _ [39, 40, 41, 5, 42, 43, 44, 45, 46, 47, 48, 49, 50, 51, 52, 53, 54, 55, 56, 57, 58, 59, 60, 61, 62, 63, 64, 65, 66, 67, 68, 69, 70, 71, 72, 73, 74, 75, 76, 15, 77, 23, 78, 79, 80, 81, 22, 82, 83, 84, 85, 86, 87, 30, 88, 89, 90, 91, 92, 93, 94, 95, 96, 97, 98, 99, 100, 101, 102, 103, 104, 105, 106, 107, 108, 109, 110, 111, 112, 113, 114, 115, 119, 120, 121, 122, 123, 124, 125, 116, 117, 118] (by decide +kernel) (by decide +kernel)
set_option maxRecDepth 20000 in
theorem gX4_follows_X4_isPossible : GoodIn wsX4_follows (wsV RX4 91 RX4 yX4_isPossible wsX4_isPossible) := goodIn_app (goodIn_of _ (by decide +kernel)) ggX4_follows_X4_isPossible
set_option maxRecDepth 20000 in
theorem ggX4_apart_X4_askClaims : GoodIn wsX4_apart wsX4_askClaims := goodIn_r _ [11, 6, 3, 12, 13, 14, 15, 16, 17, 18, 19, 20, 21, 22, 23, 24, 25, 26, 27, 97, 98, 99, 100, 101, 102, 103, 104, 105] (by decide +kernel) (by decide +kernel)
set_option maxRecDepth 20000 in
theorem gX4_apart_X4_askClaims : GoodIn wsX4_apart (wsV RX4 88 RX4 yX4_askClaims wsX4_askClaims) := goodIn_app (goodIn_of _ (by decide +kernel)) ggX4_apart_X4_askClaims
set_option maxRecDepth 20000 in
theorem ggX4_apart_X2_finds : GoodIn wsX4_apart wsX2_finds := goodIn_r _ [32, 33, 34, 35, 36, 37, 31, 38, 39, 40, 41, 42, 43, 44, 45, 46, 47, 48, 49, 50, 51, 52, 53, 54, 55, 56, 57, 58, 59, 60, 61, 62, 15, 63, 23, 64, 65, 66, 67, 22, 68, 69, 70, 71, 72, 73, 74, 75, 76, 77, 78, 79, 80, 81, 82, 83, 84, 85, 86, 87, 88, 89, 90, 91, 92, 93, 94, 95, 96, 106, 107, 108, 109, 110, 111, 112, 103, 104, 105] (by decide +kernel) (by decide +kernel)
set_option maxRecDepth 20000 in
theorem gX4_apart_X2_finds : GoodIn wsX4_apart (wsV RX4 101 RX2 yX2_finds wsX2_finds) := goodIn_app (goodIn_of _ (by decide +kernel)) ggX4_apart_X2_finds
set_option maxRecDepth 20000 in
theorem ggX4_termFor_X3_find : GoodIn wsX4_termFor wsX3_find := goodIn_r _ [8, 9, 10, 11, 12, 13, 24, 25, 26, 27, 28] (by decide +kernel) (by decide +kernel)
set_option maxRecDepth 20000 in
theorem gX4_termFor_X3_find : GoodIn wsX4_termFor (wsV RX4 105 RX3 yX3_find wsX3_find) := goodIn_app (goodIn_of _ (by decide +kernel)) ggX4_termFor_X3_find
set_option maxRecDepth 20000 in
theorem ggX4_termFor_X3_add : GoodIn wsX4_termFor wsX3_add := goodIn_r _ [17, 9, 10, 11, 12, 13, 24, 25, 26, 27, 28] (by decide +kernel) (by decide +kernel)
set_option maxRecDepth 20000 in
theorem gX4_termFor_X3_add : GoodIn wsX4_termFor (wsV RX4 108 RX3 yX3_add wsX3_add) := goodIn_app (goodIn_of _ (by decide +kernel)) ggX4_termFor_X3_add
set_option maxRecDepth 20000 in
theorem ggX4_checkPair_X3_has : GoodIn wsX4_checkPair wsX3_has := goodIn_r _ [10, 11, 24, 25, 26, 27, 28] (by decide +kernel) (by decide +kernel)
set_option maxRecDepth 20000 in
theorem gX4_checkPair_X3_has : GoodIn wsX4_checkPair (wsV RX4 43 RX3 yX3_has wsX3_has) := goodIn_app (goodIn_of _ (by decide +kernel)) ggX4_checkPair_X3_has
set_option maxRecDepth 20000 in
theorem ggX4_checkPair_X3_sortOf : GoodIn wsX4_checkPair wsX3_sortOf := goodIn_r _ [15, 16, 17, 7, 8, 9, 10, 11, 24, 25, 26, 27, 28] (by decide +kernel) (by decide +kernel)
set_option maxRecDepth 20000 in
theorem gX4_checkPair_X3_sortOf : GoodIn wsX4_checkPair (wsV RX4 50 RX3 yX3_sortOf wsX3_sortOf) := goodIn_app (goodIn_of _ (by decide +kernel)) ggX4_checkPair_X3_sortOf
