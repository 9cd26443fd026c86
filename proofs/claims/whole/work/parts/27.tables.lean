/-! TABLES, written by wip/whole/gen.py out of the Statement: classes, kinds of arrays, methods with their decoded rows -/
def mt_th_PT_150152 : List Nat := [381, 58, 55, 403, 412, 415, 418, 420, 404, 405, 75, 76, 406, 411, 416, 432, 393, 433, 395, 434, 397, 407, 409, 399, 422, 423, 424, 425, 384, 425, 426, 427, 428, 386, 428, 429, 430, 404, 388, 421, 382, 383, 390, 391, 392, 394, 396, 398, 402, 401, 400]
def mt_th_PT_84086 : List Nat := [450, 59, 55, 403, 412, 415, 418, 420, 404, 405, 75, 76, 406, 411, 416, 432, 393, 433, 395, 434, 397, 407, 409, 399, 460, 461, 462, 425, 384, 425, 426, 427, 428, 386, 428, 429, 430, 404, 388, 459, 451, 452, 453, 414, 454, 455, 456, 457, 402, 401, 458]
def mk_PT : mv_K := ("PlugTree", (fun k => match k with
  | 0 => ("PlugTree", "bridges", "[LPlugTree$Bridge;", true)
  | 1 => ("PlugTree", "types", "[LPlugTree$Type;", true)
  | 2 => ("PlugTree", "cards", "[LPlugTree$Card;", true)
  | 3 => ("PlugTree", "requests", "Ljava/util/ArrayList;", true)
  | 4 => ("PlugTree", "inside", "LPlugTree$Stretches;", true)
  | 5 => ("PlugTree", "beside", "LPlugTree$Stretches;", true)
  | 6 => ("PlugTree", "trial", "LPlugTree$Stretches;", true)
  | 7 => ("PlugTree", "places", "[I", true)
  | 8 => ("PlugTree", "bridgeCount", "I", false)
  | 9 => ("PlugTree", "typeCount", "I", false)
  | 10 => ("PlugTree", "cardCount", "I", false)
  | 11 => ("PlugTree", "fresh", "LPlugTree$Card;", false)
  | 12 => ("PlugTree", "checked", "Z", false)
  | _ => ("PlugTree", "movedRanges", "I", false)
  ), 14, 14, [.array (.object "PlugTree$Bridge"), .array (.object "PlugTree$Type"), .array (.object "PlugTree$Card"), .object "java/util/ArrayList", .object "PlugTree$Stretches", .object "PlugTree$Stretches", .object "PlugTree$Stretches", .array .int, .int, .int, .int, .object "PlugTree$Card", .boolean, .int])
def mk_Br : mv_K := ("PlugTree$Bridge", (fun k => match k with
  | 0 => ("PlugTree$Bridge", "number", "I", true)
  | 1 => ("PlugTree$Bridge", "parent", "LPlugTree$Bridge;", true)
  | 2 => ("PlugTree$Bridge", "limit", "I", true)
  | 3 => ("PlugTree$Bridge", "depth", "I", true)
  | 4 => ("PlugTree$Bridge", "bridgeIn", "[LPlugTree$Bridge;", true)
  | 5 => ("PlugTree$Bridge", "cardIn", "[LPlugTree$Card;", true)
  | 6 => ("PlugTree$Bridge", "begin", "I", false)
  | 7 => ("PlugTree$Bridge", "end", "I", false)
  | _ => ("PlugTree$Bridge", "block", "I", false)
  ), 9, 9, [.int, .object "PlugTree$Bridge", .int, .int, .array (.object "PlugTree$Bridge"), .array (.object "PlugTree$Card"), .int, .int, .int])
def mk_Ty : mv_K := ("PlugTree$Type", (fun k => match k with
  | 0 => ("PlugTree$Type", "sizes", "[I", true)
  | 1 => ("PlugTree$Type", "order", "[I", true)
  | 2 => ("PlugTree$Type", "power", "I", true)
  | _ => ("PlugTree$Type", "pauses", "Z", true)
  ), 4, 4, [.array .int, .array .int, .int, .boolean])
def mk_Ca : mv_K := ("PlugTree$Card", (fun k => match k with
  | 0 => ("PlugTree$Card", "bridge", "LPlugTree$Bridge;", true)
  | 1 => ("PlugTree$Card", "slot", "I", true)
  | 2 => ("PlugTree$Card", "type", "LPlugTree$Type;", true)
  | 3 => ("PlugTree$Card", "begins", "[I", true)
  | 4 => ("PlugTree$Card", "queue", "[LPlugTree$Request;", true)
  | 5 => ("PlugTree$Card", "number", "I", false)
  | 6 => ("PlugTree$Card", "state", "I", false)
  | 7 => ("PlugTree$Card", "reason", "I", false)
  | 8 => ("PlugTree$Card", "unfinished", "I", false)
  | 9 => ("PlugTree$Card", "pieces", "I", false)
  | _ => ("PlugTree$Card", "x", "I", false)
  ), 11, 11, [.object "PlugTree$Bridge", .int, .object "PlugTree$Type", .array .int, .array (.object "PlugTree$Request"), .int, .int, .int, .int, .int, .int])
def mk_Rq : mv_K := ("PlugTree$Request", (fun k => match k with
  | 0 => ("PlugTree$Request", "op", "I", true)
  | 1 => ("PlugTree$Request", "word", "I", true)
  | _ => ("PlugTree$Request", "outcome", "J", false)
  ), 3, 3, [.int, .int, .long])
def mk_St : mv_K := ("PlugTree$Stretches", (fun k => match k with
  | 0 => ("PlugTree$Stretches", "begins", "[I", true)
  | 1 => ("PlugTree$Stretches", "ends", "[I", true)
  | _ => ("PlugTree$Stretches", "count", "I", false)
  ), 3, 3, [.array .int, .array .int, .int])
def mk_Mo : mv_K := ("PlugTreeModel", (fun k => match k with
  | 0 => ("PlugTreeModel", "code", "I", false)
  | 1 => ("PlugTreeModel", "bridges", "I", false)
  | 2 => ("PlugTreeModel", "slots", "[I", true)
  | 3 => ("PlugTreeModel", "over", "[I", true)
  | 4 => ("PlugTreeModel", "limits", "[I", true)
  | 5 => ("PlugTreeModel", "begins", "[I", true)
  | 6 => ("PlugTreeModel", "ends", "[I", true)
  | 7 => ("PlugTreeModel", "blocks", "[I", true)
  | 8 => ("PlugTreeModel", "types", "I", false)
  | 9 => ("PlugTreeModel", "sizes", "[I", true)
  | 10 => ("PlugTreeModel", "powers", "[I", true)
  | 11 => ("PlugTreeModel", "pauses", "[Z", true)
  | 12 => ("PlugTreeModel", "cards", "I", false)
  | 13 => ("PlugTreeModel", "typeOf", "[I", true)
  | 14 => ("PlugTreeModel", "bridgeOf", "[I", true)
  | 15 => ("PlugTreeModel", "states", "[I", true)
  | 16 => ("PlugTreeModel", "reasons", "[I", true)
  | 17 => ("PlugTreeModel", "ranges", "[I", true)
  | 18 => ("PlugTreeModel", "plans", "[I", true)
  | 19 => ("PlugTreeModel", "pieces", "[I", true)
  | 20 => ("PlugTreeModel", "x", "[I", true)
  | 21 => ("PlugTreeModel", "coming", "I", false)
  | 22 => ("PlugTreeModel", "checked", "Z", false)
  | 23 => ("PlugTreeModel", "moved", "I", false)
  | 24 => ("PlugTreeModel", "tickets", "I", false)
  | 25 => ("PlugTreeModel", "ticketCard", "[I", true)
  | 26 => ("PlugTreeModel", "ops", "[I", true)
  | 27 => ("PlugTreeModel", "words", "[I", true)
  | 28 => ("PlugTreeModel", "results", "[J", true)
  | 29 => ("PlugTreeModel", "used", "[Z", true)
  | _ => ("PlugTreeModel", "above", "[Z", true)
  ), 31, 31, [.int, .int, .array .int, .array .int, .array .int, .array .int, .array .int, .array .int, .int, .array .int, .array .int, .array .boolean, .int, .array .int, .array .int, .array .int, .array .int, .array .int, .array .int, .array .int, .array .int, .int, .boolean, .int, .int, .array .int, .array .int, .array .int, .array .long, .array .boolean, .array .boolean])
def mk_Al : mv_K := ("java/util/ArrayList", (fun k => match k with
  | 0 => ("java/util/ArrayList", "elementData", "[Ljava/lang/Object;", false)
  | 1 => ("java/util/ArrayList", "size", "I", false)
  | _ => ("java/util/AbstractList", "modCount", "I", false)
  ), 3, 3, [.array (.object "java/lang/Object"), .int, .int])
def mk_Ia : mv_K := ("java/lang/IllegalArgumentException", (fun k => match k with
  | _ => ("", "", "", false)
  ), 0, 6, [])
def mk_Is : mv_K := ("java/lang/IllegalStateException", (fun k => match k with
  | _ => ("", "", "", false)
  ), 0, 6, [])
def mt_cl : List mv_K := [mk_PT, mk_Br, mk_Ty, mk_Ca, mk_Rq, mk_St, mk_Mo, mk_Al, mk_Ia, mk_Is]
def mt_ty : List FieldType := [.int, .boolean, .long, .object "PlugTree$Bridge", .object "PlugTree$Type", .object "PlugTree$Card", .object "PlugTree$Request", .object "java/lang/Object"]
def mt_as : List (Nat × Nat) := [(1, 3), (2, 4), (3, 5), (4, 6), (4, 7)]
def mt_nc : List (Nat × Nat) := [(9, 8), (8, 9)]
def mj_Ac_init : mv_J := (⟨"java/util/AbstractCollection", "<init>", "()V"⟩, prog_19_method_1_code, 1, none, [], [], 1, 99, [
  some (1, .aload_n 0, .aload_n 0, []), some (3, .invokespecial 1, .monitorexit, [94, 75, 76]), none, none, some (1, .return_, .return_, [])])
def mj_Ab_init : mv_J := (⟨"java/util/AbstractList", "<init>", "()V"⟩, prog_20_method_1_code, 1, none, [], [], 1, 99, [
  some (1, .aload_n 0, .aload_n 0, []), some (3, .invokespecial 1, .invokespecial 0, [91, 92, 93]), none, none, some (1, .aload_n 0, .aload_n 0, []), some (1, .iconst 0, .iconst 0, []), 
  some (3, .putfield 7, .putfield 450, [99]), none, none, some (1, .return_, .return_, [])])
def mj_Al_init : mv_J := (⟨"java/util/ArrayList", "<init>", "()V"⟩, prog_21_method_2_code, 1, none, [], [], 1, 7, [
  some (1, .aload_n 0, .aload_n 0, []), some (3, .invokespecial 1, .invokespecial 1, [88, 89, 90]), none, none, some (1, .aload_n 0, .aload_n 0, []), some (3, .getstatic 39, .getstatic 0, [95]), 
  none, none, some (3, .putfield 9, .putfield 448, [97]), none, none, some (1, .return_, .return_, [])])
def mj_Al_size : mv_J := (⟨"java/util/ArrayList", "size", "()I"⟩, prog_21_method_8_code, 1, some .int, [], [], 1, 7, [
  some (1, .aload_n 0, .aload_n 0, []), some (3, .getfield 48, .getfield 449, [98]), none, none, some (1, .ireturn, .ireturn, [])])
def mj_Al_add : mv_J := (⟨"java/util/ArrayList", "add", "(Ljava/lang/Object;)Z"⟩, prog_21_method_25_code, 2, some .boolean, [], [], 2, 7, [
  some (1, .aload_n 0, .aload_n 0, []), some (1, .dup, .dup, []), some (3, .getfield 63, .getfield 450, [100, 101]), none, none, some (1, .iconst 1, .iconst 1, []), 
  some (1, .iadd, .iadd, []), some (3, .putfield 63, .putfield 450, [100, 101]), none, none, some (1, .aload_n 0, .aload_n 0, []), some (1, .aload_n 1, .aload_n 1, []), 
  some (1, .aload_n 0, .aload_n 0, []), some (3, .getfield 9, .getfield 448, [97]), none, none, some (1, .aload_n 0, .aload_n 0, []), some (3, .getfield 48, .getfield 449, [98]), 
  none, none, some (3, .invokevirtual 131, .invokevirtual 5, [619, 621, 19]), none, none, some (1, .iconst 1, .iconst 1, []), some (1, .ireturn, .ireturn, [])
  ])
def mj_Al_add_5 : mv_J := (⟨"java/util/ArrayList", "add", "(Ljava/lang/Object;[Ljava/lang/Object;I)V"⟩, prog_21_method_24_code, 4, none, [], [], 4, 7, [
  some (1, .iload_n 3, .iload_n 3, []), some (1, .aload_n 2, .aload_n 2, []), some (1, .arraylength, .arraylength, []), some (3, .if_icmp .ne 8, .if_icmp .ne 11, []), 
  none, none, some (1, .aload_n 0, .aload_n 0, []), some (3, .invokevirtual 129, .invokevirtual 6, [623, 625, 20]), none, none, some (1, .astore_n 2, .astore_n 2, []), 
  some (1, .aload_n 2, .aload_n 2, []), some (1, .iload_n 3, .iload_n 3, []), some (1, .aload_n 1, .aload_n 1, []), some (1, .aastore, .aastore, []), some (1, .aload_n 0, .aload_n 0, []), 
  some (1, .iload_n 3, .iload_n 3, []), some (1, .iconst 1, .iconst 1, []), some (1, .iadd, .iadd, []), some (3, .putfield 48, .putfield 449, [98]), none, 
  none, some (1, .return_, .return_, [])])
def mj_Al_grow : mv_J := (⟨"java/util/ArrayList", "grow", "()[Ljava/lang/Object;"⟩, prog_21_method_7_code, 1, (Option.some (Jvm.ClassFile.FieldType.array (Jvm.ClassFile.FieldType.object "java/lang/Object"))), [], [], 1, 7, [
  some (1, .aload_n 0, .aload_n 0, []), some (1, .aload_n 0, .aload_n 0, []), some (3, .getfield 48, .getfield 449, [98]), none, none, some (1, .iconst 1, .iconst 1, []), 
  some (1, .iadd, .iadd, []), some (3, .invokevirtual 69, .invokevirtual 7, [627, 629, 21]), none, none, some (1, .areturn, .areturn, [])])
def mj_Al_grow_7 : mv_J := (⟨"java/util/ArrayList", "grow", "(I)[Ljava/lang/Object;"⟩, prog_21_method_6_code, 4, (Option.some (Jvm.ClassFile.FieldType.array (Jvm.ClassFile.FieldType.object "java/lang/Object"))), [], [], 2, 7, [
  some (1, .aload_n 0, .aload_n 0, []), some (3, .getfield 9, .getfield 448, [97]), none, none, some (1, .arraylength, .arraylength, []), some (1, .istore_n 2, .istore_n 2, []), 
  some (1, .iload_n 2, .iload_n 2, []), some (3, .ifCond .gt 13, .ifCond .gt 20, []), none, none, some (1, .aload_n 0, .aload_n 0, []), some (3, .getfield 9, .getfield 448, [97]), 
  none, none, some (3, .getstatic 39, .getstatic 0, [95]), none, none, some (3, .if_acmp .eq 28, .if_acmp .eq 45, []), none, none, some (1, .iload_n 2, .iload_n 2, []), 
  some (1, .iload_n 1, .iload_n 1, []), some (1, .iload_n 2, .iload_n 2, []), some (1, .isub, .isub, []), some (1, .iload_n 2, .iload_n 2, []), some (1, .iconst 1, .iconst 1, []), 
  some (1, .ishr, .ishr, []), some (3, .invokestatic 73, .invokestatic 15, [631, 632]), none, none, some (1, .istore_n 3, .istore_n 3, []), some (1, .aload_n 0, .aload_n 0, []), 
  some (1, .aload_n 0, .aload_n 0, []), some (3, .getfield 9, .getfield 448, [97]), none, none, some (1, .iload_n 3, .iload_n 3, []), some (3, .invokestatic 66, .invokestatic 10, [641, 642]), 
  none, none, some (1, .dup_x1, .dup_x1, []), some (3, .putfield 9, .putfield 448, [97]), none, none, some (1, .areturn, .areturn, []), some (1, .aload_n 0, .aload_n 0, []), 
  some (2, .bipush 10, .bipush 10, []), none, some (1, .iload_n 1, .iload_n 1, []), some (3, .invokestatic 79, .invokestatic 13, [668, 635]), none, none, 
  some (3, .anewarray 7, .anewarray 7, [669, 662]), none, none, some (1, .dup_x1, .dup_x1, []), some (3, .putfield 9, .putfield 448, [97]), none, none, 
  some (1, .areturn, .areturn, [])])
def mj_Al_get : mv_J := (⟨"java/util/ArrayList", "get", "(I)Ljava/lang/Object;"⟩, prog_21_method_20_code, 2, some (.object "java/lang/Object"), [], [], 2, 7, [
  some (1, .iload_n 1, .iload_n 1, []), some (1, .aload_n 0, .aload_n 0, []), some (3, .getfield 48, .getfield 449, [98]), none, none, some (3, .invokestatic 118, .invokestatic 12, [696, 697]), 
  none, none, some (1, .pop, .pop, []), some (1, .aload_n 0, .aload_n 0, []), some (1, .iload_n 1, .iload_n 1, []), some (3, .invokevirtual 123, .invokevirtual 9, [702, 703, 704]), 
  none, none, some (1, .areturn, .areturn, [])])
def mj_Al_elementData : mv_J := (⟨"java/util/ArrayList", "elementData", "(I)Ljava/lang/Object;"⟩, prog_21_method_18_code, 2, some (.object "java/lang/Object"), [], [], 2, 7, [
  some (1, .aload_n 0, .aload_n 0, []), some (3, .getfield 9, .getfield 448, [97]), none, none, some (1, .iload_n 1, .iload_n 1, []), some (1, .aaload, .aaload, []), 
  some (1, .areturn, .areturn, [])])
def mj_As_copyOf : mv_J := (⟨"java/util/Arrays", "copyOf", "([Ljava/lang/Object;I)[Ljava/lang/Object;"⟩, prog_22_method_119_code, 2, (Option.some (Jvm.ClassFile.FieldType.array (Jvm.ClassFile.FieldType.object "java/lang/Object"))), [], [], 2, 99, [
  some (1, .aload_n 0, .aload_n 0, []), some (1, .iload_n 1, .iload_n 1, []), some (1, .aload_n 0, .aload_n 0, []), some (3, .invokevirtual 86, .d2i, [644, 1027, 1026, 645, 657]), 
  none, none, some (3, .invokestatic 300, .invokestatic 11, [658, 659]), none, none, some (1, .areturn, .areturn, [])])
def mj_As_copyOf_11 : mv_J := (⟨"java/util/Arrays", "copyOf", "([Ljava/lang/Object;ILjava/lang/Class;)[Ljava/lang/Object;"⟩, prog_22_method_120_code, 4, (Option.some (Jvm.ClassFile.FieldType.array (Jvm.ClassFile.FieldType.object "java/lang/Object"))), [], [], 3, 99, [
  some (1, .aload_n 2, .aload_n 2, []), some (2, .ldc 110, .ldc 0, [661]), none, some (3, .if_acmp .ne 10, .if_acmp .ne 13, []), none, none, some (1, .iload_n 1, .iload_n 1, []), 
  some (3, .anewarray 2, .anewarray 7, [663, 662]), none, none, some (3, .goto 14, .goto 24, []), none, none, some (1, .aload_n 2, .aload_n 2, []), none, 
  none, none, some (1, .iload_n 1, .iload_n 1, []), none, none, none, none, none, none, some (1, .astore_n 3, .astore_n 3, []), some (1, .aload_n 0, .aload_n 0, []), 
  some (1, .iconst 0, .iconst 0, []), some (1, .aload_n 3, .aload_n 3, []), some (1, .iconst 0, .iconst 0, []), some (1, .aload_n 0, .aload_n 0, []), some (1, .arraylength, .arraylength, []), 
  some (1, .iload_n 1, .iload_n 1, []), some (3, .invokestatic 304, .invokestatic 14, [664, 665]), none, none, some (3, .invokestatic 150, .d2l, [667, 281, 280, 62]), 
  none, none, some (1, .aload_n 3, .aload_n 3, []), some (1, .areturn, .areturn, [])])
def mj_Ob_checkIndex : mv_J := (⟨"java/util/Objects", "checkIndex", "(II)I"⟩, prog_25_method_17_code, 2, some .int, [], [], 2, 99, [
  some (1, .iload_n 0, .iload_n 0, []), some (1, .iload_n 1, .iload_n 1, []), some (1, .aconst_null, .aconst_null, []), some (3, .invokestatic 105, .invokestatic 16, [699, 700]), 
  none, none, some (1, .ireturn, .ireturn, [])])
def mj_Ma_max : mv_J := (⟨"java/lang/Math", "max", "(II)I"⟩, prog_15_method_65_code, 2, some .int, [], [], 2, 99, [
  some (1, .iload_n 0, .iload_n 0, []), some (1, .iload_n 1, .iload_n 1, []), some (3, .if_icmp .lt 7, .if_icmp .lt 9, []), none, none, some (1, .iload_n 0, .iload_n 0, []), 
  some (3, .goto 4, .goto 10, []), none, none, some (1, .iload_n 1, .iload_n 1, []), some (1, .ireturn, .ireturn, [])])
def mj_Ma_min : mv_J := (⟨"java/lang/Math", "min", "(II)I"⟩, prog_15_method_69_code, 2, some .int, [], [], 2, 99, [
  some (1, .iload_n 0, .iload_n 0, []), some (1, .iload_n 1, .iload_n 1, []), some (3, .if_icmp .gt 7, .if_icmp .gt 9, []), none, none, some (1, .iload_n 0, .iload_n 0, []), 
  some (3, .goto 4, .goto 10, []), none, none, some (1, .iload_n 1, .iload_n 1, []), some (1, .ireturn, .ireturn, [])])
def mj_Su_newLength : mv_J := (⟨"jdk/internal/util/ArraysSupport", "newLength", "(III)I"⟩, prog_28_method_27_code, 4, some .int, [], [], 3, 99, [
  some (1, .iload_n 0, .iload_n 0, []), some (1, .iload_n 1, .iload_n 1, []), some (1, .iload_n 2, .iload_n 2, []), some (3, .invokestatic 194, .invokestatic 13, [634, 635]), 
  none, none, some (1, .iadd, .iadd, []), some (1, .istore_n 3, .istore_n 3, []), some (1, .iconst 0, .iconst 0, []), some (1, .iload_n 3, .iload_n 3, []), 
  some (3, .if_icmp .ge 11, .if_icmp .ge 21, []), none, none, some (1, .iload_n 3, .iload_n 3, []), some (2, .ldc 200, .ldc_w 2147483639, [637]), none, 
  some (3, .if_icmp .gt 5, .if_icmp .gt 21, []), none, none, some (1, .iload_n 3, .iload_n 3, []), some (1, .ireturn, .ireturn, []), some (1, .iload_n 0, .iload_n 0, []), 
  some (1, .iload_n 1, .iload_n 1, []), none, none, none, some (1, .ireturn, .ireturn, [])])
def mj_Pr_checkIndex : mv_J := (⟨"jdk/internal/util/Preconditions", "checkIndex", "(IILjava/util/function/BiFunction;)I"⟩, prog_29_method_11_code, 3, some .int, [], [], 3, 99, [
  some (1, .iload_n 0, .iload_n 0, []), some (3, .ifCond .lt 8, .ifCond .lt 9, []), none, none, some (1, .iload_n 0, .iload_n 0, []), some (1, .iload_n 1, .iload_n 1, []), 
  some (3, .if_icmp .lt 10, .if_icmp .lt 16, []), none, none, some (1, .aload_n 2, .aload_n 2, []), some (1, .iload_n 0, .iload_n 0, []), some (1, .iload_n 1, .iload_n 1, []), 
  none, none, none, some (1, .athrow, .athrow, []), some (1, .iload_n 0, .iload_n 0, []), some (1, .ireturn, .ireturn, [])])
def mj_Rq_init : mv_J := (⟨"PlugTree$Request", "<init>", "(II)V"⟩, prog_4_method_1_code, 3, none, [], [], 3, 4, [
  some (1, .aload_n 0, .aload_n 0, []), some (3, .invokespecial 3, .monitorexit, [599, 75, 76]), none, none, some (1, .aload_n 0, .aload_n 0, []), some (3, .ldc2_w 9, .ldc2_w 1099511627776, [600]), 
  none, none, some (3, .putfield 11, .putfield 258, [605]), none, none, some (1, .aload_n 0, .aload_n 0, []), some (1, .iload_n 1, .iload_n 1, []), some (3, .putfield 17, .putfield 256, [601]), 
  none, none, some (1, .aload_n 0, .aload_n 0, []), some (1, .iload_n 2, .iload_n 2, []), some (3, .putfield 21, .putfield 257, [603]), none, none, some (1, .return_, .return_, [])
  ])
def mj_Ty_sumOfSizes : mv_J := (⟨"PlugTree$Type", "sumOfSizes", "()I"⟩, prog_6_method_4_code, 1, some .int, [], [], 1, 2, [
  some (1, .aload_n 0, .aload_n 0, []), some (3, .getfield 9, .getfield 128, [483]), none, none, some (1, .iconst 0, .iconst 0, []), some (1, .iaload, .iaload, []), 
  some (1, .aload_n 0, .aload_n 0, []), some (3, .getfield 9, .getfield 128, [483]), none, none, some (1, .iconst 1, .iconst 1, []), some (1, .iaload, .iaload, []), 
  some (1, .iadd, .iadd, []), some (1, .aload_n 0, .aload_n 0, []), some (3, .getfield 9, .getfield 128, [483]), none, none, some (1, .iconst 2, .iconst 2, []), 
  some (1, .iaload, .iaload, []), some (1, .iadd, .iadd, []), some (1, .ireturn, .ireturn, [])])
def mj_Ty_init : mv_J := (⟨"PlugTree$Type", "<init>", "(IIIIZ)V"⟩, prog_6_method_1_code, 7, none, [], [], 6, 2, [
  some (1, .aload_n 0, .aload_n 0, []), some (3, .invokespecial 3, .monitorexit, [476, 75, 76]), none, none, some (1, .aload_n 0, .aload_n 0, []), some (1, .iconst 3, .iconst 3, []), 
  some (2, .newarray .int, .newarray .int, [125]), none, some (3, .putfield 9, .putfield 128, [483]), none, none, some (1, .aload_n 0, .aload_n 0, []), 
  some (1, .iconst 3, .iconst 3, []), some (2, .newarray .int, .newarray .int, [125]), none, some (3, .putfield 15, .putfield 129, [487]), none, none, 
  some (1, .aload_n 0, .aload_n 0, []), some (3, .getfield 9, .getfield 128, [483]), none, none, some (1, .iconst 0, .iconst 0, []), some (1, .iload_n 1, .iload_n 1, []), 
  some (3, .invokestatic 18, .invokestatic 20, [477, 478]), none, none, some (1, .iastore, .iastore, []), some (1, .aload_n 0, .aload_n 0, []), some (3, .getfield 9, .getfield 128, [483]), 
  none, none, some (1, .iconst 1, .iconst 1, []), some (1, .iload_n 2, .iload_n 2, []), some (3, .invokestatic 18, .invokestatic 20, [477, 478]), none, 
  none, some (1, .iastore, .iastore, []), some (1, .aload_n 0, .aload_n 0, []), some (3, .getfield 9, .getfield 128, [483]), none, none, some (1, .iconst 2, .iconst 2, []), 
  some (1, .iload_n 3, .iload_n 3, []), some (3, .invokestatic 18, .invokestatic 20, [477, 478]), none, none, some (1, .iastore, .iastore, []), some (1, .aload_n 0, .aload_n 0, []), 
  some (2, .iload 4, .iload 4, []), none, some (3, .putfield 22, .putfield 130, [489]), none, none, some (1, .aload_n 0, .aload_n 0, []), some (2, .iload 5, .iload 5, []), 
  none, some (3, .putfield 26, .putfield 131, [491]), none, none, some (1, .iconst 0, .iconst 0, []), some (2, .istore 6, .istore 6, []), none, some (2, .iload 6, .iload 6, []), 
  none, some (1, .iconst 3, .iconst 3, []), some (3, .if_icmp .ge 25, .if_icmp .ge 91, []), none, none, some (1, .aload_n 0, .aload_n 0, []), some (3, .getfield 15, .getfield 129, [487]), 
  none, none, some (2, .iload 6, .iload 6, []), none, some (1, .aload_n 0, .aload_n 0, []), some (3, .getfield 9, .getfield 128, [483]), none, none, some (3, .invokestatic 30, .invokestatic 21, [480, 481]), 
  none, none, some (2, .iload 6, .iload 6, []), none, some (1, .iastore, .iastore, []), some (3, .iinc 6 1, .iinc 6 1, []), none, none, some (3, .goto (-25), .goto 63, []), 
  none, none, some (1, .return_, .return_, [])])
def mj_Ty_sizeOf : mv_J := (⟨"PlugTree$Type", "sizeOf", "(I)I"⟩, prog_6_method_2_code, 1, some .int, [], [], 1, 2, [
  some (1, .iload_n 0, .iload_n 0, []), some (3, .ifCond .ge 7, .ifCond .ge 8, []), none, none, some (1, .iconst 0, .iconst 0, []), some (3, .goto 6, .goto 11, []), 
  none, none, some (1, .iconst 1, .iconst 1, []), some (1, .iload_n 0, .iload_n 0, []), some (1, .ishl, .ishl, []), some (1, .ireturn, .ireturn, [])])
def mj_Ty_rankOf : mv_J := (⟨"PlugTree$Type", "rankOf", "(I[I)I"⟩, prog_6_method_3_code, 4, some .int, [], [], 2, 2, [
  some (1, .iconst 0, .iconst 0, []), some (1, .istore_n 2, .istore_n 2, []), some (1, .iconst 0, .iconst 0, []), some (1, .istore_n 3, .istore_n 3, []), 
  some (1, .iload_n 3, .iload_n 3, []), some (1, .iconst 3, .iconst 3, []), some (3, .if_icmp .ge 35, .if_icmp .ge 41, []), none, none, some (1, .aload_n 1, .aload_n 1, []), 
  some (1, .iload_n 3, .iload_n 3, []), some (1, .iaload, .iaload, []), some (1, .aload_n 1, .aload_n 1, []), some (1, .iload_n 0, .iload_n 0, []), some (1, .iaload, .iaload, []), 
  some (3, .if_icmp .gt 17, .if_icmp .gt 32, []), none, none, some (1, .aload_n 1, .aload_n 1, []), some (1, .iload_n 3, .iload_n 3, []), some (1, .iaload, .iaload, []), 
  some (1, .aload_n 1, .aload_n 1, []), some (1, .iload_n 0, .iload_n 0, []), some (1, .iaload, .iaload, []), some (3, .if_icmp .ne 11, .if_icmp .ne 35, []), 
  none, none, some (1, .iload_n 3, .iload_n 3, []), some (1, .iload_n 0, .iload_n 0, []), some (3, .if_icmp .ge 6, .if_icmp .ge 35, []), none, none, some (3, .iinc 2 1, .iinc 2 1, []), 
  none, none, some (3, .iinc 3 1, .iinc 3 1, []), none, none, some (3, .goto (-34), .goto 4, []), none, none, some (1, .iload_n 2, .iload_n 2, []), some (1, .ireturn, .ireturn, [])
  ])
def mj_Br_init : mv_J := (⟨"PlugTree$Bridge", "<init>", "(ILPlugTree$Bridge;I)V"⟩, prog_2_method_1_code, 4, none, [], [], 4, 1, [
  some (1, .aload_n 0, .aload_n 0, []), some (3, .invokespecial 3, .monitorexit, [130, 75, 76]), none, none, some (1, .aload_n 0, .aload_n 0, []), some (1, .iconst 4, .iconst 4, []), 
  some (3, .anewarray 9, .anewarray 3, [131, 78]), none, none, some (3, .putfield 11, .putfield 68, [141]), none, none, some (1, .aload_n 0, .aload_n 0, []), 
  some (1, .iconst 4, .iconst 4, []), some (3, .anewarray 15, .anewarray 5, [132, 82]), none, none, some (3, .putfield 17, .putfield 69, [144]), none, 
  none, some (1, .aload_n 0, .aload_n 0, []), some (1, .iload_n 1, .iload_n 1, []), some (3, .putfield 21, .putfield 64, [133]), none, none, some (1, .aload_n 0, .aload_n 0, []), 
  some (1, .aload_n 2, .aload_n 2, []), some (3, .putfield 25, .putfield 65, [135]), none, none, some (1, .aload_n 0, .aload_n 0, []), some (1, .iload_n 3, .iload_n 3, []), 
  some (3, .putfield 29, .putfield 66, [137]), none, none, some (1, .aload_n 0, .aload_n 0, []), some (1, .aload_n 2, .aload_n 2, []), some (3, .ifnonnull 7, .ifnonnull 44, []), 
  none, none, some (1, .iconst 0, .iconst 0, []), some (3, .goto 9, .goto 50, []), none, none, some (1, .aload_n 2, .aload_n 2, []), some (3, .getfield 32, .getfield 67, [139]), 
  none, none, some (1, .iconst 1, .iconst 1, []), some (1, .iadd, .iadd, []), some (3, .putfield 32, .putfield 67, [139]), none, none, some (1, .return_, .return_, [])
  ])
def mj_Br_isClosed : mv_J := (⟨"PlugTree$Bridge", "isClosed", "()Z"⟩, prog_2_method_3_code, 1, some .boolean, [], [], 1, 1, [
  some (1, .aload_n 0, .aload_n 0, []), some (3, .getfield 35, .getfield 70, [149]), none, none, some (1, .aload_n 0, .aload_n 0, []), some (3, .getfield 38, .getfield 71, [153]), 
  none, none, some (3, .if_icmp .ne 7, .if_icmp .ne 15, []), none, none, some (1, .iconst 1, .iconst 1, []), some (3, .goto 4, .goto 16, []), none, none, 
  some (1, .iconst 0, .iconst 0, []), some (1, .ireturn, .ireturn, [])])
def mj_Br_isAtOrBelow : mv_J := (⟨"PlugTree$Bridge", "isAtOrBelow", "(LPlugTree$Bridge;)Z"⟩, prog_2_method_4_code, 3, some .boolean, [], [], 2, 1, [
  some (1, .aload_n 0, .aload_n 0, []), some (1, .astore_n 2, .astore_n 2, []), some (1, .aload_n 2, .aload_n 2, []), some (3, .ifnull 18, .ifnull 21, []), 
  none, none, some (1, .aload_n 2, .aload_n 2, []), some (1, .aload_n 1, .aload_n 1, []), some (3, .if_acmp .ne 5, .if_acmp .ne 13, []), none, none, some (1, .iconst 1, .iconst 1, []), 
  some (1, .ireturn, .ireturn, []), some (1, .aload_n 2, .aload_n 2, []), some (3, .getfield 25, .getfield 65, [135]), none, none, some (1, .astore_n 2, .astore_n 2, []), 
  some (3, .goto (-16), .goto 2, []), none, none, some (1, .iconst 0, .iconst 0, []), some (1, .ireturn, .ireturn, [])])
def mj_Br_sumToLay : mv_J := (⟨"PlugTree$Bridge", "sumToLay", "()I"⟩, prog_2_method_5_code, 3, some .int, [], [], 1, 1, [
  some (1, .iconst 0, .iconst 0, []), some (1, .istore_n 1, .istore_n 1, []), some (1, .iconst 0, .iconst 0, []), some (1, .istore_n 2, .istore_n 2, []), 
  some (1, .iload_n 2, .iload_n 2, []), some (1, .iconst 4, .iconst 4, []), some (3, .if_icmp .ge 57, .if_icmp .ge 63, []), none, none, some (1, .aload_n 0, .aload_n 0, []), 
  some (3, .getfield 17, .getfield 69, [144]), none, none, some (1, .iload_n 2, .iload_n 2, []), some (1, .aaload, .aaload, []), some (3, .ifnull 21, .ifnull 36, []), 
  none, none, some (1, .iload_n 1, .iload_n 1, []), some (1, .aload_n 0, .aload_n 0, []), some (3, .getfield 17, .getfield 69, [144]), none, none, some (1, .iload_n 2, .iload_n 2, []), 
  some (1, .aaload, .aaload, []), some (3, .getfield 41, .getfield 194, [521]), none, none, some (3, .invokevirtual 45, .invokevirtual 18, [317, 318, 319]), 
  none, none, some (1, .iadd, .iadd, []), some (1, .istore_n 1, .istore_n 1, []), some (3, .goto 24, .goto 57, []), none, none, some (1, .aload_n 0, .aload_n 0, []), 
  some (3, .getfield 11, .getfield 68, [141]), none, none, some (1, .iload_n 2, .iload_n 2, []), some (1, .aaload, .aaload, []), some (3, .ifnull 15, .ifnull 57, []), 
  none, none, some (1, .iload_n 1, .iload_n 1, []), some (1, .aload_n 0, .aload_n 0, []), some (3, .getfield 11, .getfield 68, [141]), none, none, some (1, .iload_n 2, .iload_n 2, []), 
  some (1, .aaload, .aaload, []), some (3, .getfield 51, .getfield 72, [154]), none, none, some (1, .iadd, .iadd, []), some (1, .istore_n 1, .istore_n 1, []), 
  some (3, .iinc 2 1, .iinc 2 1, []), none, none, some (3, .goto (-56), .goto 4, []), none, none, some (1, .iload_n 1, .iload_n 1, []), some (1, .ireturn, .ireturn, [])
  ])
def mj_Br_isSlotEmpty : mv_J := (⟨"PlugTree$Bridge", "isSlotEmpty", "(I)Z"⟩, prog_2_method_2_code, 2, some .boolean, [], [], 2, 1, [
  some (1, .aload_n 0, .aload_n 0, []), some (3, .getfield 11, .getfield 68, [141]), none, none, some (1, .iload_n 1, .iload_n 1, []), some (1, .aaload, .aaload, []), 
  some (3, .ifnonnull 16, .ifnonnull 22, []), none, none, some (1, .aload_n 0, .aload_n 0, []), some (3, .getfield 17, .getfield 69, [144]), none, none, 
  some (1, .iload_n 1, .iload_n 1, []), some (1, .aaload, .aaload, []), some (3, .ifnonnull 7, .ifnonnull 22, []), none, none, some (1, .iconst 1, .iconst 1, []), 
  some (3, .goto 4, .goto 23, []), none, none, some (1, .iconst 0, .iconst 0, []), some (1, .ireturn, .ireturn, [])])
def mj_Ca_takeOut : mv_J := (⟨"PlugTree$Card", "takeOut", "(I)V"⟩, prog_3_method_4_code, 2, none, [], [], 2, 3, [
  some (1, .aload_n 0, .aload_n 0, []), some (3, .getfield 25, .getfield 192, [516]), none, none, some (3, .getfield 41, .getfield 69, [146]), none, none, 
  some (1, .aload_n 0, .aload_n 0, []), some (3, .getfield 29, .getfield 193, [518]), none, none, some (1, .aconst_null, .aconst_null, []), some (1, .aastore, .aastore, []), 
  some (1, .aload_n 0, .aload_n 0, []), some (1, .iload_n 1, .iload_n 1, []), some (3, .putfield 21, .putfield 198, [529]), none, none, some (1, .return_, .return_, [])
  ])
def mj_Ca_isThere : mv_J := (⟨"PlugTree$Card", "isThere", "()Z"⟩, prog_3_method_2_code, 1, some .boolean, [], [], 1, 3, [
  some (1, .aload_n 0, .aload_n 0, []), some (3, .getfield 21, .getfield 198, [529]), none, none, some (1, .iconst 1, .iconst 1, []), some (3, .if_icmp .eq 19, .if_icmp .eq 24, []), 
  none, none, some (1, .aload_n 0, .aload_n 0, []), some (3, .getfield 21, .getfield 198, [529]), none, none, some (1, .iconst 2, .iconst 2, []), some (3, .if_icmp .eq 11, .if_icmp .eq 24, []), 
  none, none, some (1, .aload_n 0, .aload_n 0, []), some (3, .getfield 21, .getfield 198, [529]), none, none, some (1, .iconst 3, .iconst 3, []), some (3, .if_icmp .ne 7, .if_icmp .ne 28, []), 
  none, none, some (1, .iconst 1, .iconst 1, []), some (3, .goto 4, .goto 29, []), none, none, some (1, .iconst 0, .iconst 0, []), some (1, .ireturn, .ireturn, [])
  ])
def mj_Ca_holds : mv_J := (⟨"PlugTree$Card", "holds", "(I)Z"⟩, prog_3_method_3_code, 3, some .boolean, [], [], 2, 3, [
  some (1, .iconst 0, .iconst 0, []), some (1, .istore_n 2, .istore_n 2, []), some (1, .iload_n 2, .iload_n 2, []), some (1, .iconst 3, .iconst 3, []), 
  some (3, .if_icmp .ge 41, .if_icmp .ge 45, []), none, none, some (1, .iload_n 1, .iload_n 1, []), some (1, .aload_n 0, .aload_n 0, []), some (3, .getfield 9, .getfield 195, [523]), 
  none, none, some (1, .iload_n 2, .iload_n 2, []), some (1, .iaload, .iaload, []), some (3, .if_icmp .lt 25, .if_icmp .lt 39, []), none, none, some (1, .iload_n 1, .iload_n 1, []), 
  some (1, .aload_n 0, .aload_n 0, []), some (3, .getfield 9, .getfield 195, [523]), none, none, some (1, .iload_n 2, .iload_n 2, []), some (1, .iaload, .iaload, []), 
  some (1, .aload_n 0, .aload_n 0, []), some (3, .getfield 32, .getfield 194, [519]), none, none, some (3, .getfield 36, .getfield 128, [485]), none, none, 
  some (1, .iload_n 2, .iload_n 2, []), some (1, .iaload, .iaload, []), some (1, .iadd, .iadd, []), some (3, .if_icmp .ge 5, .if_icmp .ge 39, []), none, 
  none, some (1, .iconst 1, .iconst 1, []), some (1, .ireturn, .ireturn, []), some (3, .iinc 2 1, .iinc 2 1, []), none, none, some (3, .goto (-40), .goto 2, []), 
  none, none, some (1, .iconst 0, .iconst 0, []), some (1, .ireturn, .ireturn, [])])
def mj_Ca_init : mv_J := (⟨"PlugTree$Card", "<init>", "(LPlugTree$Bridge;ILPlugTree$Type;)V"⟩, prog_3_method_1_code, 4, none, [], [], 4, 3, [
  some (1, .aload_n 0, .aload_n 0, []), some (3, .invokespecial 3, .monitorexit, [513, 75, 76]), none, none, some (1, .aload_n 0, .aload_n 0, []), some (1, .iconst 3, .iconst 3, []), 
  some (2, .newarray .int, .newarray .int, [125]), none, some (3, .putfield 9, .putfield 195, [523]), none, none, some (1, .aload_n 0, .aload_n 0, []), 
  some (2, .bipush 8, .bipush 8, []), none, some (3, .anewarray 15, .anewarray 6, [514, 515]), none, none, some (3, .putfield 17, .putfield 196, [526]), 
  none, none, some (1, .aload_n 0, .aload_n 0, []), some (1, .iconst 0, .iconst 0, []), some (3, .putfield 21, .putfield 198, [529]), none, none, some (1, .aload_n 0, .aload_n 0, []), 
  some (1, .aload_n 1, .aload_n 1, []), some (3, .putfield 25, .putfield 192, [516]), none, none, some (1, .aload_n 0, .aload_n 0, []), some (1, .iload_n 2, .iload_n 2, []), 
  some (3, .putfield 29, .putfield 193, [518]), none, none, some (1, .aload_n 0, .aload_n 0, []), some (1, .aload_n 3, .aload_n 3, []), some (3, .putfield 32, .putfield 194, [519]), 
  none, none, some (1, .return_, .return_, [])])
def mj_Ca_loseFrom : mv_J := (⟨"PlugTree$Card", "loseFrom", "(I)I"⟩, prog_3_method_5_code, 4, some .int, [], [], 2, 3, [
  some (1, .iconst 0, .iconst 0, []), some (1, .istore_n 2, .istore_n 2, []), some (1, .iload_n 1, .iload_n 1, []), some (1, .istore_n 3, .istore_n 3, []), 
  some (1, .iload_n 3, .iload_n 3, []), some (1, .aload_n 0, .aload_n 0, []), some (3, .getfield 47, .getfield 200, [532]), none, none, some (3, .if_icmp .ge 31, .if_icmp .ge 40, []), 
  none, none, some (1, .aload_n 0, .aload_n 0, []), some (3, .getfield 17, .getfield 196, [526]), none, none, some (1, .iload_n 3, .iload_n 3, []), some (1, .aaload, .aaload, []), 
  some (3, .ldc2_w 50, .ldc2_w 2199023255552, [575]), none, none, some (3, .putfield 52, .putfield 258, [606]), none, none, some (1, .aload_n 0, .aload_n 0, []), 
  some (3, .getfield 17, .getfield 196, [526]), none, none, some (1, .iload_n 3, .iload_n 3, []), some (1, .aconst_null, .aconst_null, []), some (1, .aastore, .aastore, []), 
  some (3, .iinc 2 1, .iinc 2 1, []), none, none, some (3, .iinc 3 1, .iinc 3 1, []), none, none, some (3, .goto (-33), .goto 4, []), none, none, some (1, .aload_n 0, .aload_n 0, []), 
  some (1, .dup, .dup, []), some (3, .getfield 47, .getfield 200, [532]), none, none, some (1, .iload_n 2, .iload_n 2, []), some (1, .isub, .isub, []), 
  some (3, .putfield 47, .putfield 200, [532]), none, none, some (1, .aload_n 0, .aload_n 0, []), some (3, .getfield 47, .getfield 200, [532]), none, none, 
  some (3, .ifCond .ne 8, .ifCond .ne 62, []), none, none, some (1, .aload_n 0, .aload_n 0, []), some (1, .iconst 0, .iconst 0, []), some (3, .putfield 56, .putfield 201, [534]), 
  none, none, some (1, .iload_n 2, .iload_n 2, []), some (1, .ireturn, .ireturn, [])])
def mj_Ca_doPiece : mv_J := (⟨"PlugTree$Card", "doPiece", "()Z"⟩, prog_3_method_6_code, 1, some .boolean, [], [], 1, 3, [
  some (1, .aload_n 0, .aload_n 0, []), some (3, .getfield 56, .getfield 201, [534]), none, none, some (3, .ifCond .ne 36, .ifCond .ne 40, []), none, none, 
  some (1, .aload_n 0, .aload_n 0, []), some (3, .getfield 21, .getfield 198, [529]), none, none, some (1, .iconst 1, .iconst 1, []), some (3, .if_icmp .ne 28, .if_icmp .ne 40, []), 
  none, none, some (1, .aload_n 0, .aload_n 0, []), some (3, .getfield 47, .getfield 200, [532]), none, none, some (3, .ifCond .le 21, .ifCond .le 40, []), 
  none, none, some (1, .aload_n 0, .aload_n 0, []), some (1, .aload_n 0, .aload_n 0, []), some (3, .getfield 17, .getfield 196, [526]), none, none, some (1, .iconst 0, .iconst 0, []), 
  some (1, .aaload, .aaload, []), some (3, .getfield 59, .getfield 256, [602]), none, none, some (2, .bipush 8, .bipush 8, []), none, some (1, .irem, .irem, []), 
  some (1, .iconst 1, .iconst 1, []), some (1, .iadd, .iadd, []), some (3, .putfield 56, .putfield 201, [534]), none, none, some (1, .aload_n 0, .aload_n 0, []), 
  some (3, .getfield 56, .getfield 201, [534]), none, none, some (3, .ifCond .ne 5, .ifCond .ne 49, []), none, none, some (1, .iconst 0, .iconst 0, []), 
  some (1, .ireturn, .ireturn, []), some (1, .aload_n 0, .aload_n 0, []), some (1, .dup, .dup, []), some (3, .getfield 56, .getfield 201, [534]), none, 
  none, some (1, .iconst 1, .iconst 1, []), some (1, .isub, .isub, []), some (3, .putfield 56, .putfield 201, [534]), none, none, some (1, .aload_n 0, .aload_n 0, []), 
  some (3, .getfield 56, .getfield 201, [534]), none, none, some (3, .ifCond .ne 7, .ifCond .ne 70, []), none, none, some (1, .aload_n 0, .aload_n 0, []), 
  some (3, .invokevirtual 62, .invokevirtual 33, [681, 682, 683]), none, none, some (1, .iconst 1, .iconst 1, []), some (1, .ireturn, .ireturn, [])])
def mj_Ca_finishFirst : mv_J := (⟨"PlugTree$Card", "finishFirst", "()V"⟩, prog_3_method_7_code, 3, none, [], [], 1, 3, [
  some (1, .aload_n 0, .aload_n 0, []), some (3, .getfield 17, .getfield 196, [526]), none, none, some (1, .iconst 0, .iconst 0, []), some (1, .aaload, .aaload, []), 
  some (1, .astore_n 1, .astore_n 1, []), some (1, .aload_n 0, .aload_n 0, []), some (2, .bipush 31, .bipush 31, []), none, some (1, .aload_n 0, .aload_n 0, []), 
  some (3, .getfield 65, .getfield 202, [536]), none, none, some (1, .imul, .imul, []), some (1, .aload_n 1, .aload_n 1, []), some (3, .getfield 68, .getfield 257, [604]), 
  none, none, some (1, .iadd, .iadd, []), some (3, .putfield 65, .putfield 202, [536]), none, none, some (1, .aload_n 1, .aload_n 1, []), some (1, .aload_n 0, .aload_n 0, []), 
  some (3, .getfield 65, .getfield 202, [536]), none, none, some (1, .aload_n 1, .aload_n 1, []), some (3, .getfield 59, .getfield 256, [602]), none, none, 
  some (1, .iadd, .iadd, []), some (1, .i2l, .i2l, []), some (3, .putfield 52, .putfield 258, [606]), none, none, some (1, .aload_n 0, .aload_n 0, []), 
  some (1, .dup, .dup, []), some (3, .getfield 47, .getfield 200, [532]), none, none, some (1, .iconst 1, .iconst 1, []), some (1, .isub, .isub, []), some (3, .putfield 47, .putfield 200, [532]), 
  none, none, some (1, .iconst 0, .iconst 0, []), some (1, .istore_n 2, .istore_n 2, []), some (1, .iload_n 2, .iload_n 2, []), some (1, .aload_n 0, .aload_n 0, []), 
  some (3, .getfield 47, .getfield 200, [532]), none, none, some (3, .if_icmp .ge 23, .if_icmp .ge 77, []), none, none, some (1, .aload_n 0, .aload_n 0, []), 
  some (3, .getfield 17, .getfield 196, [526]), none, none, some (1, .iload_n 2, .iload_n 2, []), some (1, .aload_n 0, .aload_n 0, []), some (3, .getfield 17, .getfield 196, [526]), 
  none, none, some (1, .iload_n 2, .iload_n 2, []), some (1, .iconst 1, .iconst 1, []), some (1, .iadd, .iadd, []), some (1, .aaload, .aaload, []), some (1, .aastore, .aastore, []), 
  some (3, .iinc 2 1, .iinc 2 1, []), none, none, some (3, .goto (-25), .goto 49, []), none, none, some (1, .aload_n 0, .aload_n 0, []), some (3, .getfield 17, .getfield 196, [526]), 
  none, none, some (1, .aload_n 0, .aload_n 0, []), some (3, .getfield 47, .getfield 200, [532]), none, none, some (1, .aconst_null, .aconst_null, []), 
  some (1, .aastore, .aastore, []), some (1, .return_, .return_, [])])
def mj_St_init : mv_J := (⟨"PlugTree$Stretches", "<init>", "()V"⟩, prog_5_method_1_code, 1, none, [], [], 1, 5, [
  some (1, .aload_n 0, .aload_n 0, []), some (3, .invokespecial 3, .monitorexit, [114, 75, 76]), none, none, some (1, .aload_n 0, .aload_n 0, []), some (2, .bipush 12, .bipush 12, []), 
  none, some (2, .newarray .int, .newarray .int, [125]), none, some (3, .putfield 11, .putfield 320, [115]), none, none, some (1, .aload_n 0, .aload_n 0, []), 
  some (2, .bipush 12, .bipush 12, []), none, some (2, .newarray .int, .newarray .int, [125]), none, some (3, .putfield 15, .putfield 321, [116]), none, 
  none, some (1, .return_, .return_, [])])
def mj_St_gather : mv_J := (⟨"PlugTree$Stretches", "gather", "(LPlugTree$Bridge;LPlugTree$Bridge;)V"⟩, prog_5_method_2_code, 6, none, [], [], 3, 5, [
  some (1, .aload_n 0, .aload_n 0, []), some (1, .iconst 0, .iconst 0, []), some (3, .putfield 18, .putfield 322, [117]), none, none, some (1, .iconst 0, .iconst 0, []), 
  some (1, .istore_n 3, .istore_n 3, []), some (1, .iload_n 3, .iload_n 3, []), some (1, .iconst 4, .iconst 4, []), some (3, .if_icmp .ge 77, .if_icmp .ge 86, []), 
  none, none, some (1, .aload_n 1, .aload_n 1, []), some (3, .getfield 22, .getfield 68, [142]), none, none, some (1, .iload_n 3, .iload_n 3, []), some (1, .aaload, .aaload, []), 
  some (2, .astore 4, .astore 4, []), none, some (2, .aload 4, .aload 4, []), none, some (3, .ifnull 31, .ifnull 53, []), none, none, some (2, .aload 4, .aload 4, []), 
  none, some (1, .aload_n 2, .aload_n 2, []), some (3, .if_acmp .eq 25, .if_acmp .eq 53, []), none, none, some (2, .aload 4, .aload 4, []), none, some (3, .invokevirtual 28, .invokevirtual 23, [238, 239, 240]), 
  none, none, some (3, .ifCond .ne 17, .ifCond .ne 53, []), none, none, some (1, .aload_n 0, .aload_n 0, []), some (2, .aload 4, .aload 4, []), none, some (3, .getfield 32, .getfield 70, [148]), 
  none, none, some (2, .aload 4, .aload 4, []), none, some (3, .getfield 35, .getfield 71, [152]), none, none, some (3, .invokevirtual 38, .invokevirtual 36, [242, 243, 244]), 
  none, none, some (1, .aload_n 1, .aload_n 1, []), some (3, .getfield 42, .getfield 69, [145]), none, none, some (1, .iload_n 3, .iload_n 3, []), some (1, .aaload, .aaload, []), 
  some (2, .astore 5, .astore 5, []), none, some (2, .aload 5, .aload 5, []), none, some (3, .ifnull 17, .ifnull 80, []), none, none, some (2, .aload 5, .aload 5, []), 
  none, some (3, .invokevirtual 46, .invokevirtual 28, [246, 247, 248]), none, none, some (3, .ifCond .eq 9, .ifCond .eq 80, []), none, none, some (1, .aload_n 0, .aload_n 0, []), 
  some (2, .aload 5, .aload 5, []), none, some (3, .invokevirtual 51, .invokevirtual 37, [250, 251, 252]), none, none, some (3, .iinc 3 1, .iinc 3 1, []), 
  none, none, some (3, .goto (-76), .goto 7, []), none, none, some (1, .return_, .return_, [])])
def mj_St_add : mv_J := (⟨"PlugTree$Stretches", "add", "(II)V"⟩, prog_5_method_5_code, 4, none, [], [], 3, 5, [
  some (1, .aload_n 0, .aload_n 0, []), some (3, .getfield 18, .getfield 322, [117]), none, none, some (2, .bipush 12, .bipush 12, []), none, some (3, .if_icmp .ne 4, .if_icmp .ne 10, []), 
  none, none, some (1, .return_, .return_, []), some (1, .aload_n 0, .aload_n 0, []), some (3, .getfield 18, .getfield 322, [117]), none, none, some (1, .istore_n 3, .istore_n 3, []), 
  some (1, .iload_n 3, .iload_n 3, []), some (3, .ifCond .le 49, .ifCond .le 65, []), none, none, some (1, .aload_n 0, .aload_n 0, []), some (3, .getfield 11, .getfield 320, [115]), 
  none, none, some (1, .iload_n 3, .iload_n 3, []), some (1, .iconst 1, .iconst 1, []), some (1, .isub, .isub, []), some (1, .iaload, .iaload, []), some (1, .iload_n 1, .iload_n 1, []), 
  some (3, .if_icmp .le 37, .if_icmp .le 65, []), none, none, some (1, .aload_n 0, .aload_n 0, []), some (3, .getfield 11, .getfield 320, [115]), none, 
  none, some (1, .iload_n 3, .iload_n 3, []), some (1, .aload_n 0, .aload_n 0, []), some (3, .getfield 11, .getfield 320, [115]), none, none, some (1, .iload_n 3, .iload_n 3, []), 
  some (1, .iconst 1, .iconst 1, []), some (1, .isub, .isub, []), some (1, .iaload, .iaload, []), some (1, .iastore, .iastore, []), some (1, .aload_n 0, .aload_n 0, []), 
  some (3, .getfield 15, .getfield 321, [116]), none, none, some (1, .iload_n 3, .iload_n 3, []), some (1, .aload_n 0, .aload_n 0, []), some (3, .getfield 15, .getfield 321, [116]), 
  none, none, some (1, .iload_n 3, .iload_n 3, []), some (1, .iconst 1, .iconst 1, []), some (1, .isub, .isub, []), some (1, .iaload, .iaload, []), some (1, .iastore, .iastore, []), 
  some (3, .iinc 3 (-1), .iinc 3 (-1), []), none, none, some (3, .goto (-47), .goto 15, []), none, none, some (1, .aload_n 0, .aload_n 0, []), some (3, .getfield 11, .getfield 320, [115]), 
  none, none, some (1, .iload_n 3, .iload_n 3, []), some (1, .iload_n 1, .iload_n 1, []), some (1, .iastore, .iastore, []), some (1, .aload_n 0, .aload_n 0, []), 
  some (3, .getfield 15, .getfield 321, [116]), none, none, some (1, .iload_n 3, .iload_n 3, []), some (1, .iload_n 2, .iload_n 2, []), some (1, .iastore, .iastore, []), 
  some (1, .aload_n 0, .aload_n 0, []), some (1, .dup, .dup, []), some (3, .getfield 18, .getfield 322, [117]), none, none, some (1, .iconst 1, .iconst 1, []), 
  some (1, .iadd, .iadd, []), some (3, .putfield 18, .putfield 322, [117]), none, none, some (1, .return_, .return_, [])])
def mj_St_addRanges : mv_J := (⟨"PlugTree$Stretches", "addRanges", "(LPlugTree$Card;)V"⟩, prog_5_method_3_code, 3, none, [], [], 2, 5, [
  some (1, .iconst 0, .iconst 0, []), some (1, .istore_n 2, .istore_n 2, []), some (1, .iload_n 2, .iload_n 2, []), some (1, .iconst 3, .iconst 3, []), 
  some (3, .if_icmp .ge 47, .if_icmp .ge 51, []), none, none, some (1, .aload_n 1, .aload_n 1, []), some (3, .getfield 55, .getfield 194, [520]), none, 
  none, some (3, .getfield 59, .getfield 128, [484]), none, none, some (1, .iload_n 2, .iload_n 2, []), some (1, .iaload, .iaload, []), some (3, .ifCond .le 29, .ifCond .le 45, []), 
  none, none, some (1, .aload_n 0, .aload_n 0, []), some (1, .aload_n 1, .aload_n 1, []), some (3, .getfield 64, .getfield 195, [524]), none, none, some (1, .iload_n 2, .iload_n 2, []), 
  some (1, .iaload, .iaload, []), some (1, .aload_n 1, .aload_n 1, []), some (3, .getfield 64, .getfield 195, [524]), none, none, some (1, .iload_n 2, .iload_n 2, []), 
  some (1, .iaload, .iaload, []), some (1, .aload_n 1, .aload_n 1, []), some (3, .getfield 55, .getfield 194, [520]), none, none, some (3, .getfield 59, .getfield 128, [484]), 
  none, none, some (1, .iload_n 2, .iload_n 2, []), some (1, .iaload, .iaload, []), some (1, .iadd, .iadd, []), some (3, .invokevirtual 38, .invokevirtual 36, [242, 243, 244]), 
  none, none, some (3, .iinc 2 1, .iinc 2 1, []), none, none, some (3, .goto (-46), .goto 2, []), none, none, some (1, .return_, .return_, [])])
def mj_St_become : mv_J := (⟨"PlugTree$Stretches", "become", "(LPlugTree$Stretches;)V"⟩, prog_5_method_4_code, 2, none, [], [], 2, 5, [
  some (1, .aload_n 1, .aload_n 1, []), some (3, .getfield 11, .getfield 320, [115]), none, none, some (1, .iconst 0, .iconst 0, []), some (1, .aload_n 0, .aload_n 0, []), 
  some (3, .getfield 11, .getfield 320, [115]), none, none, some (1, .iconst 0, .iconst 0, []), some (2, .bipush 12, .bipush 12, []), none, some (3, .invokestatic 65, .monitorenter, [279, 281, 280, 62]), 
  none, none, some (1, .aload_n 1, .aload_n 1, []), some (3, .getfield 15, .getfield 321, [116]), none, none, some (1, .iconst 0, .iconst 0, []), some (1, .aload_n 0, .aload_n 0, []), 
  some (3, .getfield 15, .getfield 321, [116]), none, none, some (1, .iconst 0, .iconst 0, []), some (2, .bipush 12, .bipush 12, []), none, some (3, .invokestatic 65, .monitorenter, [279, 281, 280, 62]), 
  none, none, some (1, .aload_n 0, .aload_n 0, []), some (1, .aload_n 1, .aload_n 1, []), some (3, .getfield 18, .getfield 322, [117]), none, none, some (3, .putfield 18, .putfield 322, [117]), 
  none, none, some (1, .return_, .return_, [])])
def mj_St_placeFor : mv_J := (⟨"PlugTree$Stretches", "placeFor", "(III)I"⟩, prog_5_method_7_code, 10, some .int, [], [], 4, 5, [
  some (1, .iconst (-1), .iconst (-1), []), some (2, .istore 4, .istore 4, []), none, some (1, .iconst 0, .iconst 0, []), some (2, .istore 5, .istore 5, []), 
  none, some (1, .iconst 0, .iconst 0, []), some (2, .istore 6, .istore 6, []), none, some (2, .iload 6, .iload 6, []), none, some (1, .aload_n 0, .aload_n 0, []), 
  some (3, .getfield 18, .getfield 322, [117]), none, none, some (3, .if_icmp .gt 98, .if_icmp .gt 113, []), none, none, some (2, .iload 6, .iload 6, []), 
  none, some (3, .ifCond .le 15, .ifCond .le 35, []), none, none, some (1, .aload_n 0, .aload_n 0, []), some (3, .getfield 15, .getfield 321, [116]), none, 
  none, some (2, .iload 6, .iload 6, []), none, some (1, .iconst 1, .iconst 1, []), some (1, .isub, .isub, []), some (1, .iaload, .iaload, []), some (3, .goto 4, .goto 36, []), 
  none, none, some (1, .iload_n 2, .iload_n 2, []), some (2, .istore 7, .istore 7, []), none, some (2, .iload 6, .iload 6, []), none, some (1, .aload_n 0, .aload_n 0, []), 
  some (3, .getfield 18, .getfield 322, [117]), none, none, some (3, .if_icmp .ge 13, .if_icmp .ge 57, []), none, none, some (1, .aload_n 0, .aload_n 0, []), 
  some (3, .getfield 11, .getfield 320, [115]), none, none, some (2, .iload 6, .iload 6, []), none, some (1, .iaload, .iaload, []), some (3, .goto 4, .goto 58, []), 
  none, none, some (1, .iload_n 3, .iload_n 3, []), some (2, .istore 8, .istore 8, []), none, some (2, .iload 7, .iload 7, []), none, some (1, .iload_n 1, .iload_n 1, []), 
  some (1, .iadd, .iadd, []), some (1, .iconst 1, .iconst 1, []), some (1, .isub, .isub, []), some (1, .iload_n 1, .iload_n 1, []), some (1, .ineg, .ineg, []), 
  some (1, .iand, .iand, []), some (2, .istore 9, .istore 9, []), none, some (2, .iload 9, .iload 9, []), none, some (1, .iload_n 1, .iload_n 1, []), some (1, .iadd, .iadd, []), 
  some (2, .iload 8, .iload 8, []), none, some (3, .if_icmp .gt 30, .if_icmp .gt 107, []), none, none, some (2, .iload 4, .iload 4, []), none, some (1, .iconst (-1), .iconst (-1), []), 
  some (3, .if_icmp .eq 13, .if_icmp .eq 96, []), none, none, some (2, .iload 8, .iload 8, []), none, some (2, .iload 7, .iload 7, []), none, some (1, .isub, .isub, []), 
  some (2, .iload 5, .iload 5, []), none, some (3, .if_icmp .ge 14, .if_icmp .ge 107, []), none, none, some (2, .iload 9, .iload 9, []), none, some (2, .istore 4, .istore 4, []), 
  none, some (2, .iload 8, .iload 8, []), none, some (2, .iload 7, .iload 7, []), none, some (1, .isub, .isub, []), some (2, .istore 5, .istore 5, []), 
  none, some (3, .iinc 6 1, .iinc 6 1, []), none, none, some (3, .goto (-101), .goto 9, []), none, none, some (2, .iload 4, .iload 4, []), none, some (1, .ireturn, .ireturn, [])
  ])
def mj_St_isFree : mv_J := (⟨"PlugTree$Stretches", "isFree", "(II)Z"⟩, prog_5_method_6_code, 4, some .boolean, [], [], 3, 5, [
  some (1, .iconst 0, .iconst 0, []), some (1, .istore_n 3, .istore_n 3, []), some (1, .iload_n 3, .iload_n 3, []), some (1, .aload_n 0, .aload_n 0, []), 
  some (3, .getfield 18, .getfield 322, [117]), none, none, some (3, .if_icmp .ge 31, .if_icmp .ge 38, []), none, none, some (1, .aload_n 0, .aload_n 0, []), 
  some (3, .getfield 11, .getfield 320, [115]), none, none, some (1, .iload_n 3, .iload_n 3, []), some (1, .iaload, .iaload, []), some (1, .iload_n 2, .iload_n 2, []), 
  some (3, .if_icmp .ge 15, .if_icmp .ge 32, []), none, none, some (1, .iload_n 1, .iload_n 1, []), some (1, .aload_n 0, .aload_n 0, []), some (3, .getfield 15, .getfield 321, [116]), 
  none, none, some (1, .iload_n 3, .iload_n 3, []), some (1, .iaload, .iaload, []), some (3, .if_icmp .ge 5, .if_icmp .ge 32, []), none, none, some (1, .iconst 0, .iconst 0, []), 
  some (1, .ireturn, .ireturn, []), some (3, .iinc 3 1, .iinc 3 1, []), none, none, some (3, .goto (-33), .goto 2, []), none, none, some (1, .iconst 1, .iconst 1, []), 
  some (1, .ireturn, .ireturn, [])])
def mj_PT_init : mv_J := (⟨"PlugTree", "<init>", "()V"⟩, prog_1_method_1_code, 1, none, [], [], 1, 0, [
  some (1, .aload_n 0, .aload_n 0, []), some (3, .invokespecial 1, .monitorexit, [74, 75, 76]), none, none, some (1, .aload_n 0, .aload_n 0, []), some (2, .bipush 8, .bipush 8, []), 
  none, some (3, .anewarray 9, .anewarray 3, [77, 78]), none, none, some (3, .putfield 11, .putfield 0, [175]), none, none, some (1, .aload_n 0, .aload_n 0, []), 
  some (2, .bipush 16, .bipush 16, []), none, some (3, .anewarray 15, .anewarray 4, [79, 80]), none, none, some (3, .putfield 17, .putfield 1, [176]), 
  none, none, some (1, .aload_n 0, .aload_n 0, []), some (2, .bipush 40, .bipush 40, []), none, some (3, .anewarray 21, .anewarray 5, [81, 82]), none, 
  none, some (3, .putfield 23, .putfield 2, [177]), none, none, some (1, .aload_n 0, .aload_n 0, []), some (3, .new 27, .new 7, [83, 84, 51]), none, none, 
  some (1, .dup, .dup, []), some (3, .invokespecial 29, .invokespecial 2, [85, 86, 87]), none, none, some (3, .putfield 30, .putfield 3, [178]), none, 
  none, some (1, .aload_n 0, .aload_n 0, []), some (3, .new 34, .new 5, [109, 110, 52]), none, none, some (1, .dup, .dup, []), some (3, .invokespecial 36, .invokespecial 34, [111, 112, 113]), 
  none, none, some (3, .putfield 37, .putfield 4, [179]), none, none, some (1, .aload_n 0, .aload_n 0, []), some (3, .new 34, .new 5, [109, 110, 52]), 
  none, none, some (1, .dup, .dup, []), some (3, .invokespecial 36, .invokespecial 34, [111, 112, 113]), none, none, some (3, .putfield 41, .putfield 5, [180]), 
  none, none, some (1, .aload_n 0, .aload_n 0, []), some (3, .new 34, .new 5, [109, 110, 52]), none, none, some (1, .dup, .dup, []), some (3, .invokespecial 36, .invokespecial 34, [111, 112, 113]), 
  none, none, some (3, .putfield 44, .putfield 6, [181]), none, none, some (1, .aload_n 0, .aload_n 0, []), some (1, .iconst 3, .iconst 3, []), some (2, .newarray .int, .newarray .int, [125]), 
  none, some (3, .putfield 47, .putfield 7, [182]), none, none, some (1, .aload_n 0, .aload_n 0, []), some (3, .getfield 11, .getfield 0, [175]), none, 
  none, some (1, .iconst 0, .iconst 0, []), some (3, .new 9, .new 1, [77, 126, 53]), none, none, some (1, .dup, .dup, []), some (1, .iconst 0, .iconst 0, []), 
  some (1, .aconst_null, .aconst_null, []), some (3, .sipush 1000, .sipush 1000, []), none, none, some (3, .invokespecial 51, .invokespecial 22, [127, 128, 129]), 
  none, none, some (1, .aastore, .aastore, []), some (1, .aload_n 0, .aload_n 0, []), some (3, .getfield 11, .getfield 0, [175]), none, none, some (1, .iconst 0, .iconst 0, []), 
  some (1, .aaload, .aaload, []), some (3, .sipush 4096, .sipush 4096, []), none, none, some (3, .putfield 54, .putfield 71, [151]), none, none, some (1, .aload_n 0, .aload_n 0, []), 
  some (1, .iconst 1, .iconst 1, []), some (3, .putfield 58, .putfield 8, [183]), none, none, some (1, .return_, .return_, [])])
def mj_PT_step : mv_J := (⟨"PlugTree", "step", "()Z"⟩, prog_1_method_5_code, 2, some .boolean, [], [], 1, 0, [
  some (1, .aload_n 0, .aload_n 0, []), some (3, .invokevirtual 112, .invokevirtual 43, [222, 224, 0]), none, none, some (1, .istore_n 1, .istore_n 1, []), 
  some (1, .aload_n 0, .aload_n 0, []), some (3, .getfield 80, .getfield 11, [186]), none, none, some (3, .ifnonnull 5, .ifnonnull 14, []), none, none, 
  some (1, .iload_n 1, .iload_n 1, []), some (1, .ireturn, .ireturn, []), some (1, .aload_n 0, .aload_n 0, []), some (3, .getfield 108, .getfield 12, [187]), 
  none, none, some (3, .ifCond .ne 13, .ifCond .ne 31, []), none, none, some (1, .aload_n 0, .aload_n 0, []), some (1, .aload_n 0, .aload_n 0, []), some (3, .getfield 80, .getfield 11, [186]), 
  none, none, some (3, .invokevirtual 116, .invokevirtual 44, [230, 232, 1]), none, none, some (1, .iconst 1, .iconst 1, []), some (1, .ireturn, .ireturn, []), 
  some (1, .aload_n 0, .aload_n 0, []), some (3, .invokevirtual 120, .invokevirtual 56, [329, 331, 12]), none, none, some (3, .ifCond .eq 5, .ifCond .eq 40, []), 
  none, none, some (1, .iload_n 1, .iload_n 1, []), some (1, .ireturn, .ireturn, []), some (1, .aload_n 0, .aload_n 0, []), some (1, .aload_n 0, .aload_n 0, []), 
  some (3, .getfield 80, .getfield 11, [186]), none, none, some (3, .invokevirtual 123, .invokevirtual 57, [333, 335, 13]), none, none, some (1, .iconst 1, .iconst 1, []), 
  some (1, .ireturn, .ireturn, [])])
def mj_PT_dismissLeaving : mv_J := (⟨"PlugTree", "dismissLeaving", "()Z"⟩, prog_1_method_23_code, 3, some .boolean, [], [], 1, 0, [
  some (1, .iconst 0, .iconst 0, []), some (1, .istore_n 1, .istore_n 1, []), some (1, .iconst 0, .iconst 0, []), some (1, .istore_n 2, .istore_n 2, []), 
  some (1, .iload_n 2, .iload_n 2, []), some (1, .aload_n 0, .aload_n 0, []), some (3, .getfield 96, .getfield 10, [185]), none, none, some (3, .if_icmp .ge 46, .if_icmp .ge 55, []), 
  none, none, some (1, .aload_n 0, .aload_n 0, []), some (3, .getfield 23, .getfield 2, [177]), none, none, some (1, .iload_n 2, .iload_n 2, []), some (1, .aaload, .aaload, []), 
  some (3, .getfield 133, .getfield 198, [530]), none, none, some (1, .iconst 3, .iconst 3, []), some (3, .if_icmp .ne 27, .if_icmp .ne 49, []), none, 
  none, some (1, .aload_n 0, .aload_n 0, []), some (3, .getfield 23, .getfield 2, [177]), none, none, some (1, .iload_n 2, .iload_n 2, []), some (1, .aaload, .aaload, []), 
  some (3, .getfield 147, .getfield 201, [535]), none, none, some (3, .ifCond .ne 15, .ifCond .ne 49, []), none, none, some (1, .aload_n 0, .aload_n 0, []), 
  some (3, .getfield 23, .getfield 2, [177]), none, none, some (1, .iload_n 2, .iload_n 2, []), some (1, .aaload, .aaload, []), some (1, .iconst 4, .iconst 4, []), 
  some (3, .invokevirtual 140, .invokevirtual 27, [226, 227, 228]), none, none, some (1, .iconst 1, .iconst 1, []), some (1, .istore_n 1, .istore_n 1, []), 
  some (3, .iinc 2 1, .iinc 2 1, []), none, none, some (3, .goto (-48), .goto 4, []), none, none, some (1, .iload_n 1, .iload_n 1, []), some (1, .ireturn, .ireturn, [])
  ])
def mj_PT_examine : mv_J := (⟨"PlugTree", "examine", "(LPlugTree$Card;)V"⟩, prog_1_method_24_code, 2, none, [], [], 2, 0, [
  some (1, .aload_n 0, .aload_n 0, []), some (3, .getfield 37, .getfield 4, [179]), none, none, some (1, .aload_n 1, .aload_n 1, []), some (3, .getfield 213, .getfield 192, [517]), 
  none, none, some (1, .aconst_null, .aconst_null, []), some (3, .invokevirtual 217, .invokevirtual 35, [234, 235, 236]), none, none, some (1, .aload_n 0, .aload_n 0, []), 
  some (1, .aload_n 1, .aload_n 1, []), some (3, .invokevirtual 221, .invokevirtual 45, [254, 256, 2]), none, none, some (3, .ifCond .eq 12, .ifCond .eq 29, []), 
  none, none, some (1, .aload_n 0, .aload_n 0, []), some (1, .aload_n 1, .aload_n 1, []), some (1, .iconst 1, .iconst 1, []), some (3, .invokevirtual 225, .invokevirtual 47, [267, 269, 4]), 
  none, none, some (3, .goto 87, .goto 113, []), none, none, some (1, .aload_n 0, .aload_n 0, []), some (1, .aload_n 1, .aload_n 1, []), some (1, .aload_n 1, .aload_n 1, []), 
  some (3, .getfield 213, .getfield 192, [517]), none, none, some (3, .getfield 199, .getfield 70, [150]), none, none, some (1, .aload_n 1, .aload_n 1, []), 
  some (3, .getfield 213, .getfield 192, [517]), none, none, some (3, .getfield 54, .getfield 71, [151]), none, none, some (3, .invokevirtual 229, .invokevirtual 48, [271, 273, 5]), 
  none, none, some (3, .ifCond .ne 11, .ifCond .ne 59, []), none, none, some (1, .aload_n 0, .aload_n 0, []), some (1, .aload_n 1, .aload_n 1, []), some (3, .invokevirtual 233, .invokevirtual 49, [287, 289, 6]), 
  none, none, some (3, .ifCond .eq 11, .ifCond .eq 67, []), none, none, some (1, .aload_n 0, .aload_n 0, []), some (1, .aload_n 1, .aload_n 1, []), some (3, .invokevirtual 236, .invokevirtual 51, [300, 302, 8]), 
  none, none, some (3, .goto 49, .goto 113, []), none, none, some (1, .aload_n 0, .aload_n 0, []), some (3, .invokevirtual 239, .invokevirtual 52, [305, 307, 9]), 
  none, none, some (3, .ifCond .ne 12, .ifCond .ne 83, []), none, none, some (1, .aload_n 0, .aload_n 0, []), some (1, .aload_n 1, .aload_n 1, []), some (1, .iconst 2, .iconst 2, []), 
  some (3, .invokevirtual 225, .invokevirtual 47, [267, 269, 4]), none, none, some (3, .goto 33, .goto 113, []), none, none, some (1, .aload_n 0, .aload_n 0, []), 
  some (3, .invokevirtual 242, .invokevirtual 53, [309, 311, 10]), none, none, some (3, .sipush 4096, .sipush 4096, []), none, none, some (3, .if_icmp .le 12, .if_icmp .le 102, []), 
  none, none, some (1, .aload_n 0, .aload_n 0, []), some (1, .aload_n 1, .aload_n 1, []), some (1, .iconst 3, .iconst 3, []), some (3, .invokevirtual 225, .invokevirtual 47, [267, 269, 4]), 
  none, none, some (3, .goto 14, .goto 113, []), none, none, some (1, .aload_n 0, .aload_n 0, []), some (1, .iconst 1, .iconst 1, []), some (1, .iconst 2, .iconst 2, []), 
  some (3, .invokevirtual 136, .invokevirtual 55, [325, 327, 11]), none, none, some (1, .aload_n 0, .aload_n 0, []), some (1, .iconst 1, .iconst 1, []), 
  some (3, .putfield 108, .putfield 12, [187]), none, none, some (1, .return_, .return_, [])])
def mj_PT_exceedsPower : mv_J := (⟨"PlugTree", "exceedsPower", "(LPlugTree$Card;)Z"⟩, prog_1_method_27_code, 3, some .boolean, [], [], 2, 0, [
  some (1, .aload_n 1, .aload_n 1, []), some (3, .getfield 213, .getfield 192, [517]), none, none, some (1, .astore_n 2, .astore_n 2, []), some (1, .aload_n 2, .aload_n 2, []), 
  some (3, .ifnull 33, .ifnull 39, []), none, none, some (1, .aload_n 0, .aload_n 0, []), some (1, .aload_n 2, .aload_n 2, []), some (3, .invokevirtual 205, .invokevirtual 46, [258, 260, 3]), 
  none, none, some (1, .aload_n 1, .aload_n 1, []), some (3, .getfield 189, .getfield 194, [522]), none, none, some (3, .getfield 251, .getfield 130, [490]), 
  none, none, some (1, .iadd, .iadd, []), some (1, .aload_n 2, .aload_n 2, []), some (3, .getfield 254, .getfield 66, [138]), none, none, some (3, .if_icmp .le 5, .if_icmp .le 31, []), 
  none, none, some (1, .iconst 1, .iconst 1, []), some (1, .ireturn, .ireturn, []), some (1, .aload_n 2, .aload_n 2, []), some (3, .getfield 257, .getfield 65, [136]), 
  none, none, some (1, .astore_n 2, .astore_n 2, []), some (3, .goto (-31), .goto 5, []), none, none, some (1, .iconst 0, .iconst 0, []), some (1, .ireturn, .ireturn, [])
  ])
def mj_PT_powerUsed : mv_J := (⟨"PlugTree", "powerUsed", "(LPlugTree$Bridge;)I"⟩, prog_1_method_28_code, 4, some .int, [], [], 2, 0, [
  some (1, .iconst 0, .iconst 0, []), some (1, .istore_n 2, .istore_n 2, []), some (1, .iconst 0, .iconst 0, []), some (1, .istore_n 3, .istore_n 3, []), 
  some (1, .iload_n 3, .iload_n 3, []), some (1, .aload_n 0, .aload_n 0, []), some (3, .getfield 96, .getfield 10, [185]), none, none, some (3, .if_icmp .ge 52, .if_icmp .ge 61, []), 
  none, none, some (1, .aload_n 0, .aload_n 0, []), some (3, .getfield 23, .getfield 2, [177]), none, none, some (1, .iload_n 3, .iload_n 3, []), some (1, .aaload, .aaload, []), 
  some (3, .invokevirtual 186, .invokevirtual 28, [262, 247, 248]), none, none, some (3, .ifCond .eq 34, .ifCond .eq 55, []), none, none, some (1, .aload_n 0, .aload_n 0, []), 
  some (3, .getfield 23, .getfield 2, [177]), none, none, some (1, .iload_n 3, .iload_n 3, []), some (1, .aaload, .aaload, []), some (3, .getfield 213, .getfield 192, [517]), 
  none, none, some (1, .aload_n 1, .aload_n 1, []), some (3, .invokevirtual 260, .invokevirtual 24, [263, 264, 265]), none, none, some (3, .ifCond .eq 18, .ifCond .eq 55, []), 
  none, none, some (1, .iload_n 2, .iload_n 2, []), some (1, .aload_n 0, .aload_n 0, []), some (3, .getfield 23, .getfield 2, [177]), none, none, some (1, .iload_n 3, .iload_n 3, []), 
  some (1, .aaload, .aaload, []), some (3, .getfield 189, .getfield 194, [522]), none, none, some (3, .getfield 251, .getfield 130, [490]), none, none, 
  some (1, .iadd, .iadd, []), some (1, .istore_n 2, .istore_n 2, []), some (3, .iinc 3 1, .iinc 3 1, []), none, none, some (3, .goto (-54), .goto 4, []), 
  none, none, some (1, .iload_n 2, .iload_n 2, []), some (1, .ireturn, .ireturn, [])])
def mj_PT_refuse : mv_J := (⟨"PlugTree", "refuse", "(LPlugTree$Card;I)V"⟩, prog_1_method_25_code, 3, none, [], [], 3, 0, [
  some (1, .aload_n 1, .aload_n 1, []), some (1, .iconst 5, .iconst 5, []), some (3, .invokevirtual 140, .invokevirtual 27, [226, 227, 228]), none, none, 
  some (1, .aload_n 1, .aload_n 1, []), some (1, .iload_n 2, .iload_n 2, []), some (3, .putfield 183, .putfield 199, [531]), none, none, some (1, .aload_n 0, .aload_n 0, []), 
  some (1, .aconst_null, .aconst_null, []), some (3, .putfield 80, .putfield 11, [186]), none, none, some (1, .return_, .return_, [])])
def mj_PT_fits : mv_J := (⟨"PlugTree", "fits", "(LPlugTree$Card;II)Z"⟩, prog_1_method_29_code, 8, some .boolean, [], [], 4, 0, [
  some (1, .aload_n 0, .aload_n 0, []), some (3, .getfield 44, .getfield 6, [181]), none, none, some (1, .aload_n 0, .aload_n 0, []), some (3, .getfield 37, .getfield 4, [179]), 
  none, none, some (3, .invokevirtual 264, .invokevirtual 38, [275, 276, 277]), none, none, some (1, .iconst 0, .iconst 0, []), some (2, .istore 4, .istore 4, []), 
  none, some (2, .iload 4, .iload 4, []), none, some (1, .iconst 3, .iconst 3, []), some (3, .if_icmp .ge 91, .if_icmp .ge 108, []), none, none, some (1, .aload_n 1, .aload_n 1, []), 
  some (3, .getfield 189, .getfield 194, [522]), none, none, some (3, .getfield 268, .getfield 129, [488]), none, none, some (2, .iload 4, .iload 4, []), 
  none, some (1, .iaload, .iaload, []), some (2, .istore 5, .istore 5, []), none, some (1, .aload_n 1, .aload_n 1, []), some (3, .getfield 189, .getfield 194, [522]), 
  none, none, some (3, .getfield 193, .getfield 128, [486]), none, none, some (2, .iload 5, .iload 5, []), none, some (1, .iaload, .iaload, []), some (2, .istore 6, .istore 6, []), 
  none, some (2, .iload 6, .iload 6, []), none, some (3, .ifCond .le 17, .ifCond .le 63, []), none, none, some (1, .aload_n 0, .aload_n 0, []), some (3, .getfield 44, .getfield 6, [181]), 
  none, none, some (2, .iload 6, .iload 6, []), none, some (1, .iload_n 2, .iload_n 2, []), some (1, .iload_n 3, .iload_n 3, []), some (3, .invokevirtual 271, .invokevirtual 39, [282, 283, 284]), 
  none, none, some (3, .goto 4, .goto 64, []), none, none, some (1, .iconst 0, .iconst 0, []), some (2, .istore 7, .istore 7, []), none, some (2, .iload 7, .iload 7, []), 
  none, some (1, .iconst (-1), .iconst (-1), []), some (3, .if_icmp .ne 5, .if_icmp .ne 74, []), none, none, some (1, .iconst 0, .iconst 0, []), some (1, .ireturn, .ireturn, []), 
  some (1, .aload_n 0, .aload_n 0, []), some (3, .getfield 47, .getfield 7, [182]), none, none, some (2, .iload 5, .iload 5, []), none, some (2, .iload 7, .iload 7, []), 
  none, some (1, .iastore, .iastore, []), some (2, .iload 6, .iload 6, []), none, some (3, .ifCond .le 17, .ifCond .le 102, []), none, none, some (1, .aload_n 0, .aload_n 0, []), 
  some (3, .getfield 44, .getfield 6, [181]), none, none, some (2, .iload 7, .iload 7, []), none, some (2, .iload 7, .iload 7, []), none, some (2, .iload 6, .iload 6, []), 
  none, some (1, .iadd, .iadd, []), some (3, .invokevirtual 275, .invokevirtual 36, [286, 243, 244]), none, none, some (3, .iinc 4 1, .iinc 4 1, []), none, 
  none, some (3, .goto (-91), .goto 14, []), none, none, some (1, .iconst 1, .iconst 1, []), some (1, .ireturn, .ireturn, [])])
def mj_PT_grows : mv_J := (⟨"PlugTree", "grows", "(LPlugTree$Card;)Z"⟩, prog_1_method_30_code, 5, some .boolean, [], [], 2, 0, [
  some (1, .aload_n 1, .aload_n 1, []), some (3, .getfield 213, .getfield 192, [517]), none, none, some (1, .astore_n 2, .astore_n 2, []), some (1, .aload_n 2, .aload_n 2, []), 
  some (3, .getfield 257, .getfield 65, [136]), none, none, some (1, .astore_n 3, .astore_n 3, []), some (1, .aload_n 3, .aload_n 3, []), some (3, .ifnonnull 5, .ifnonnull 16, []), 
  none, none, some (1, .iconst 0, .iconst 0, []), some (1, .ireturn, .ireturn, []), some (1, .aload_n 0, .aload_n 0, []), some (3, .getfield 41, .getfield 5, [180]), 
  none, none, some (1, .aload_n 3, .aload_n 3, []), some (1, .aload_n 2, .aload_n 2, []), some (3, .invokevirtual 217, .invokevirtual 35, [234, 235, 236]), 
  none, none, some (1, .aload_n 2, .aload_n 2, []), some (3, .invokevirtual 277, .invokevirtual 23, [291, 239, 240]), none, none, some (3, .ifCond .ne 21, .ifCond .ne 50, []), 
  none, none, some (1, .aload_n 0, .aload_n 0, []), some (1, .aload_n 1, .aload_n 1, []), some (1, .aload_n 2, .aload_n 2, []), some (3, .getfield 199, .getfield 70, [150]), 
  none, none, some (1, .aload_n 2, .aload_n 2, []), some (3, .getfield 54, .getfield 71, [151]), none, none, some (1, .aload_n 3, .aload_n 3, []), some (3, .getfield 54, .getfield 71, [151]), 
  none, none, some (3, .invokevirtual 280, .invokevirtual 50, [292, 294, 7]), none, none, some (1, .ireturn, .ireturn, []), some (1, .aload_n 3, .aload_n 3, []), 
  some (3, .getfield 199, .getfield 70, [150]), none, none, some (2, .istore 4, .istore 4, []), none, some (2, .iload 4, .iload 4, []), none, some (1, .aload_n 3, .aload_n 3, []), 
  some (3, .getfield 54, .getfield 71, [151]), none, none, some (3, .if_icmp .ge 27, .if_icmp .ge 89, []), none, none, some (1, .aload_n 0, .aload_n 0, []), 
  some (1, .aload_n 1, .aload_n 1, []), some (2, .iload 4, .iload 4, []), none, some (2, .iload 4, .iload 4, []), none, some (1, .aload_n 3, .aload_n 3, []), 
  some (3, .getfield 54, .getfield 71, [151]), none, none, some (3, .invokevirtual 280, .invokevirtual 50, [292, 294, 7]), none, none, some (3, .ifCond .eq 5, .ifCond .eq 83, []), 
  none, none, some (1, .iconst 1, .iconst 1, []), some (1, .ireturn, .ireturn, []), some (3, .iinc 4 64, .iinc 4 64, []), none, none, some (3, .goto (-30), .goto 56, []), 
  none, none, some (1, .iconst 0, .iconst 0, []), some (1, .ireturn, .ireturn, [])])
def mj_PT_growsFrom : mv_J := (⟨"PlugTree", "growsFrom", "(LPlugTree$Card;III)Z"⟩, prog_1_method_31_code, 6, some .boolean, [], [], 5, 0, [
  some (1, .iload_n 3, .iload_n 3, []), some (2, .istore 5, .istore 5, []), none, some (2, .iload 5, .iload 5, []), none, some (2, .iload 4, .iload 4, []), 
  none, some (3, .if_icmp .ge 62, .if_icmp .ge 69, []), none, none, some (1, .aload_n 0, .aload_n 0, []), some (3, .getfield 41, .getfield 5, [180]), none, 
  none, some (2, .iload 5, .iload 5, []), none, some (2, .iload 5, .iload 5, []), none, some (2, .bipush 64, .bipush 64, []), none, some (1, .iadd, .iadd, []), 
  some (3, .invokevirtual 284, .invokevirtual 40, [296, 297, 298]), none, none, some (3, .ifCond .eq 45, .ifCond .eq 69, []), none, none, some (1, .aload_n 0, .aload_n 0, []), 
  some (1, .aload_n 1, .aload_n 1, []), some (1, .iload_n 2, .iload_n 2, []), some (2, .iload 5, .iload 5, []), none, some (2, .bipush 64, .bipush 64, []), 
  none, some (1, .iadd, .iadd, []), some (3, .invokevirtual 229, .invokevirtual 48, [271, 273, 5]), none, none, some (3, .ifCond .eq 25, .ifCond .eq 63, []), 
  none, none, some (1, .aload_n 1, .aload_n 1, []), some (3, .getfield 213, .getfield 192, [517]), none, none, some (1, .iload_n 2, .iload_n 2, []), some (3, .putfield 199, .putfield 70, [150]), 
  none, none, some (1, .aload_n 1, .aload_n 1, []), some (3, .getfield 213, .getfield 192, [517]), none, none, some (2, .iload 5, .iload 5, []), none, 
  some (2, .bipush 64, .bipush 64, []), none, some (1, .iadd, .iadd, []), some (3, .putfield 54, .putfield 71, [151]), none, none, some (1, .iconst 1, .iconst 1, []), 
  some (1, .ireturn, .ireturn, []), some (3, .iinc 5 64, .iinc 5 64, []), none, none, some (3, .goto (-63), .goto 3, []), none, none, some (1, .iconst 0, .iconst 0, []), 
  some (1, .ireturn, .ireturn, [])])
def mj_PT_settleIn : mv_J := (⟨"PlugTree", "settleIn", "(LPlugTree$Card;)V"⟩, prog_1_method_26_code, 2, none, [], [], 2, 0, [
  some (1, .aload_n 0, .aload_n 0, []), some (3, .getfield 47, .getfield 7, [182]), none, none, some (1, .iconst 0, .iconst 0, []), some (1, .aload_n 1, .aload_n 1, []), 
  some (3, .getfield 196, .getfield 195, [525]), none, none, some (1, .iconst 0, .iconst 0, []), some (1, .iconst 3, .iconst 3, []), some (3, .invokestatic 245, .monitorenter, [304, 281, 280, 62]), 
  none, none, some (1, .aload_n 1, .aload_n 1, []), some (1, .iconst 1, .iconst 1, []), some (3, .putfield 133, .putfield 198, [530]), none, none, some (1, .aload_n 0, .aload_n 0, []), 
  some (1, .aconst_null, .aconst_null, []), some (3, .putfield 80, .putfield 11, [186]), none, none, some (1, .return_, .return_, [])])
def mj_PT_canAllPause : mv_J := (⟨"PlugTree", "canAllPause", "()Z"⟩, prog_1_method_32_code, 2, some .boolean, [], [], 1, 0, [
  some (1, .iconst 0, .iconst 0, []), some (1, .istore_n 1, .istore_n 1, []), some (1, .iload_n 1, .iload_n 1, []), some (1, .aload_n 0, .aload_n 0, []), 
  some (3, .getfield 96, .getfield 10, [185]), none, none, some (3, .if_icmp .ge 38, .if_icmp .ge 45, []), none, none, some (1, .aload_n 0, .aload_n 0, []), 
  some (3, .getfield 23, .getfield 2, [177]), none, none, some (1, .iload_n 1, .iload_n 1, []), some (1, .aaload, .aaload, []), some (3, .invokevirtual 186, .invokevirtual 28, [262, 247, 248]), 
  none, none, some (3, .ifCond .eq 20, .ifCond .eq 39, []), none, none, some (1, .aload_n 0, .aload_n 0, []), some (3, .getfield 23, .getfield 2, [177]), 
  none, none, some (1, .iload_n 1, .iload_n 1, []), some (1, .aaload, .aaload, []), some (3, .getfield 189, .getfield 194, [522]), none, none, some (3, .getfield 288, .getfield 131, [492]), 
  none, none, some (3, .ifCond .ne 5, .ifCond .ne 39, []), none, none, some (1, .iconst 0, .iconst 0, []), some (1, .ireturn, .ireturn, []), some (3, .iinc 1 1, .iinc 1 1, []), 
  none, none, some (3, .goto (-40), .goto 2, []), none, none, some (1, .iconst 1, .iconst 1, []), some (1, .ireturn, .ireturn, [])])
def mj_PT_measureBlocks : mv_J := (⟨"PlugTree", "measureBlocks", "()I"⟩, prog_1_method_35_code, 3, some .int, [], [], 1, 0, [
  some (1, .iconst 0, .iconst 0, []), some (1, .istore_n 1, .istore_n 1, []), some (1, .aload_n 0, .aload_n 0, []), some (3, .getfield 58, .getfield 8, [183]), 
  none, none, some (1, .iconst 1, .iconst 1, []), some (1, .isub, .isub, []), some (1, .istore_n 2, .istore_n 2, []), some (1, .iload_n 2, .iload_n 2, []), 
  some (3, .ifCond .lt 32, .ifCond .lt 42, []), none, none, some (1, .aload_n 0, .aload_n 0, []), some (3, .getfield 11, .getfield 0, [175]), none, none, 
  some (1, .iload_n 2, .iload_n 2, []), some (1, .aaload, .aaload, []), some (3, .invokevirtual 291, .invokevirtual 25, [313, 314, 315]), none, none, some (1, .istore_n 1, .istore_n 1, []), 
  some (1, .aload_n 0, .aload_n 0, []), some (3, .getfield 11, .getfield 0, [175]), none, none, some (1, .iload_n 2, .iload_n 2, []), some (1, .aaload, .aaload, []), 
  some (1, .iload_n 1, .iload_n 1, []), some (3, .invokestatic 294, .invokestatic 54, [321, 322]), none, none, some (3, .putfield 297, .putfield 72, [155]), 
  none, none, some (3, .iinc 2 (-1), .iinc 2 (-1), []), none, none, some (3, .goto (-30), .goto 9, []), none, none, some (1, .iload_n 1, .iload_n 1, []), 
  some (1, .ireturn, .ireturn, [])])
def mj_PT_blockFor : mv_J := (⟨"PlugTree", "blockFor", "(I)I"⟩, prog_1_method_36_code, 2, some .int, [], [], 1, 0, [
  some (1, .iload_n 0, .iload_n 0, []), some (3, .ifCond .ne 5, .ifCond .ne 6, []), none, none, some (1, .iconst 0, .iconst 0, []), some (1, .ireturn, .ireturn, []), 
  some (2, .bipush 64, .bipush 64, []), none, some (1, .istore_n 1, .istore_n 1, []), some (1, .iload_n 1, .iload_n 1, []), some (1, .iload_n 0, .iload_n 0, []), 
  some (3, .if_icmp .ge 17, .if_icmp .ge 28, []), none, none, some (1, .iload_n 1, .iload_n 1, []), some (3, .ldc_w 300, .ldc_w 1048576, [324]), none, 
  none, some (3, .if_icmp .ge 10, .if_icmp .ge 28, []), none, none, some (1, .iload_n 1, .iload_n 1, []), some (1, .iconst 2, .iconst 2, []), some (1, .imul, .imul, []), 
  some (1, .istore_n 1, .istore_n 1, []), some (3, .goto (-16), .goto 9, []), none, none, some (1, .iload_n 1, .iload_n 1, []), some (1, .ireturn, .ireturn, [])
  ])
def mj_PT_turnAll : mv_J := (⟨"PlugTree", "turnAll", "(II)V"⟩, prog_1_method_34_code, 4, none, [], [], 3, 0, [
  some (1, .iconst 0, .iconst 0, []), some (1, .istore_n 3, .istore_n 3, []), some (1, .iload_n 3, .iload_n 3, []), some (1, .aload_n 0, .aload_n 0, []), 
  some (3, .getfield 96, .getfield 10, [185]), none, none, some (3, .if_icmp .ge 32, .if_icmp .ge 39, []), none, none, some (1, .aload_n 0, .aload_n 0, []), 
  some (3, .getfield 23, .getfield 2, [177]), none, none, some (1, .iload_n 3, .iload_n 3, []), some (1, .aaload, .aaload, []), some (3, .getfield 133, .getfield 198, [530]), 
  none, none, some (1, .iload_n 1, .iload_n 1, []), some (3, .if_icmp .ne 13, .if_icmp .ne 33, []), none, none, some (1, .aload_n 0, .aload_n 0, []), some (3, .getfield 23, .getfield 2, [177]), 
  none, none, some (1, .iload_n 3, .iload_n 3, []), some (1, .aaload, .aaload, []), some (1, .iload_n 2, .iload_n 2, []), some (3, .putfield 133, .putfield 198, [530]), 
  none, none, some (3, .iinc 3 1, .iinc 3 1, []), none, none, some (3, .goto (-34), .goto 2, []), none, none, some (1, .return_, .return_, [])])
def mj_PT_isSomeRequestStarted : mv_J := (⟨"PlugTree", "isSomeRequestStarted", "()Z"⟩, prog_1_method_33_code, 2, some .boolean, [], [], 1, 0, [
  some (1, .iconst 0, .iconst 0, []), some (1, .istore_n 1, .istore_n 1, []), some (1, .iload_n 1, .iload_n 1, []), some (1, .aload_n 0, .aload_n 0, []), 
  some (3, .getfield 96, .getfield 10, [185]), none, none, some (3, .if_icmp .ge 23, .if_icmp .ge 30, []), none, none, some (1, .aload_n 0, .aload_n 0, []), 
  some (3, .getfield 23, .getfield 2, [177]), none, none, some (1, .iload_n 1, .iload_n 1, []), some (1, .aaload, .aaload, []), some (3, .getfield 147, .getfield 201, [535]), 
  none, none, some (3, .ifCond .le 5, .ifCond .le 24, []), none, none, some (1, .iconst 1, .iconst 1, []), some (1, .ireturn, .ireturn, []), some (3, .iinc 1 1, .iinc 1 1, []), 
  none, none, some (3, .goto (-25), .goto 2, []), none, none, some (1, .iconst 0, .iconst 0, []), some (1, .ireturn, .ireturn, [])])
def mj_PT_moveAll : mv_J := (⟨"PlugTree", "moveAll", "(LPlugTree$Card;)V"⟩, prog_1_method_37_code, 3, none, [], [], 2, 0, [
  some (1, .aload_n 0, .aload_n 0, []), some (3, .invokevirtual 242, .invokevirtual 53, [309, 311, 10]), none, none, some (1, .pop, .pop, []), some (1, .aload_n 0, .aload_n 0, []), 
  some (1, .iconst 0, .iconst 0, []), some (3, .putfield 210, .putfield 13, [188]), none, none, some (1, .iconst 1, .iconst 1, []), some (1, .istore_n 2, .istore_n 2, []), 
  some (1, .iload_n 2, .iload_n 2, []), some (1, .aload_n 0, .aload_n 0, []), some (3, .getfield 58, .getfield 8, [183]), none, none, some (3, .if_icmp .ge 29, .if_icmp .ge 46, []), 
  none, none, some (1, .aload_n 0, .aload_n 0, []), some (3, .getfield 11, .getfield 0, [175]), none, none, some (1, .iload_n 2, .iload_n 2, []), some (1, .aaload, .aaload, []), 
  some (1, .iconst 0, .iconst 0, []), some (3, .putfield 199, .putfield 70, [150]), none, none, some (1, .aload_n 0, .aload_n 0, []), some (3, .getfield 11, .getfield 0, [175]), 
  none, none, some (1, .iload_n 2, .iload_n 2, []), some (1, .aaload, .aaload, []), some (1, .iconst 0, .iconst 0, []), some (3, .putfield 54, .putfield 71, [151]), 
  none, none, some (3, .iinc 2 1, .iinc 2 1, []), none, none, some (3, .goto (-31), .goto 12, []), none, none, some (1, .iconst 0, .iconst 0, []), some (1, .istore_n 2, .istore_n 2, []), 
  some (1, .iload_n 2, .iload_n 2, []), some (1, .aload_n 0, .aload_n 0, []), some (3, .getfield 58, .getfield 8, [183]), none, none, some (3, .if_icmp .ge 19, .if_icmp .ge 72, []), 
  none, none, some (1, .aload_n 0, .aload_n 0, []), some (1, .aload_n 0, .aload_n 0, []), some (3, .getfield 11, .getfield 0, [175]), none, none, some (1, .iload_n 2, .iload_n 2, []), 
  some (1, .aaload, .aaload, []), some (3, .invokevirtual 301, .invokevirtual 58, [337, 339, 14]), none, none, some (3, .iinc 2 1, .iinc 2 1, []), none, 
  none, some (3, .goto (-21), .goto 48, []), none, none, some (1, .aload_n 0, .aload_n 0, []), some (1, .iconst 2, .iconst 2, []), some (1, .iconst 1, .iconst 1, []), 
  some (3, .invokevirtual 136, .invokevirtual 55, [325, 327, 11]), none, none, some (1, .aload_n 1, .aload_n 1, []), some (1, .iconst 1, .iconst 1, []), 
  some (3, .putfield 133, .putfield 198, [530]), none, none, some (1, .aload_n 0, .aload_n 0, []), some (1, .aconst_null, .aconst_null, []), some (3, .putfield 80, .putfield 11, [186]), 
  none, none, some (1, .return_, .return_, [])])
def mj_PT_layOut : mv_J := (⟨"PlugTree", "layOut", "(LPlugTree$Bridge;)V"⟩, prog_1_method_38_code, 5, none, [], [], 2, 0, [
  some (1, .aload_n 1, .aload_n 1, []), some (3, .getfield 199, .getfield 70, [150]), none, none, some (1, .istore_n 2, .istore_n 2, []), some (3, .sipush 4096, .sipush 4096, []), 
  none, none, some (1, .istore_n 3, .istore_n 3, []), some (1, .iload_n 3, .iload_n 3, []), some (3, .ifCond .le 75, .ifCond .le 85, []), none, none, some (1, .iconst 0, .iconst 0, []), 
  some (2, .istore 4, .istore 4, []), none, some (2, .iload 4, .iload 4, []), none, some (1, .iconst 4, .iconst 4, []), some (3, .if_icmp .ge 59, .if_icmp .ge 78, []), 
  none, none, some (1, .aload_n 1, .aload_n 1, []), some (3, .getfield 102, .getfield 69, [147]), none, none, some (2, .iload 4, .iload 4, []), none, some (1, .aaload, .aaload, []), 
  some (3, .ifnull 20, .ifnull 49, []), none, none, some (1, .aload_n 0, .aload_n 0, []), some (1, .aload_n 1, .aload_n 1, []), some (3, .getfield 102, .getfield 69, [147]), 
  none, none, some (2, .iload 4, .iload 4, []), none, some (1, .aaload, .aaload, []), some (1, .iload_n 3, .iload_n 3, []), some (1, .iload_n 2, .iload_n 2, []), 
  some (3, .invokevirtual 305, .invokevirtual 59, [341, 343, 15]), none, none, some (1, .istore_n 2, .istore_n 2, []), some (3, .goto 26, .goto 72, []), 
  none, none, some (1, .aload_n 1, .aload_n 1, []), some (3, .getfield 87, .getfield 68, [143]), none, none, some (2, .iload 4, .iload 4, []), none, some (1, .aaload, .aaload, []), 
  some (3, .ifnull 16, .ifnull 72, []), none, none, some (1, .aload_n 1, .aload_n 1, []), some (3, .getfield 87, .getfield 68, [143]), none, none, some (2, .iload 4, .iload 4, []), 
  none, some (1, .aaload, .aaload, []), some (1, .iload_n 3, .iload_n 3, []), some (1, .iload_n 2, .iload_n 2, []), some (3, .invokestatic 309, .invokestatic 60, [345, 346]), 
  none, none, some (1, .istore_n 2, .istore_n 2, []), some (3, .iinc 4 1, .iinc 4 1, []), none, none, some (3, .goto (-59), .goto 16, []), none, none, 
  some (1, .iload_n 3, .iload_n 3, []), some (1, .iconst 2, .iconst 2, []), some (1, .idiv, .idiv, []), some (1, .istore_n 3, .istore_n 3, []), some (3, .goto (-73), .goto 9, []), 
  none, none, some (1, .return_, .return_, [])])
def mj_PT_layRanges : mv_J := (⟨"PlugTree", "layRanges", "(LPlugTree$Card;II)I"⟩, prog_1_method_39_code, 6, some .int, [], [], 4, 0, [
  some (1, .iload_n 3, .iload_n 3, []), some (2, .istore 4, .istore 4, []), none, some (1, .iconst 0, .iconst 0, []), some (2, .istore 5, .istore 5, []), 
  none, some (2, .iload 5, .iload 5, []), none, some (1, .iconst 3, .iconst 3, []), some (3, .if_icmp .ge 68, .if_icmp .ge 77, []), none, none, some (1, .aload_n 1, .aload_n 1, []), 
  some (3, .getfield 189, .getfield 194, [522]), none, none, some (3, .getfield 193, .getfield 128, [486]), none, none, some (2, .iload 5, .iload 5, []), 
  none, some (1, .iaload, .iaload, []), some (1, .iload_n 2, .iload_n 2, []), some (3, .if_icmp .ne 48, .if_icmp .ne 71, []), none, none, some (1, .aload_n 1, .aload_n 1, []), 
  some (1, .aload_n 0, .aload_n 0, []), some (3, .getfield 80, .getfield 11, [186]), none, none, some (3, .if_acmp .eq 25, .if_acmp .eq 56, []), none, 
  none, some (1, .aload_n 1, .aload_n 1, []), some (3, .getfield 196, .getfield 195, [525]), none, none, some (2, .iload 5, .iload 5, []), none, some (1, .iaload, .iaload, []), 
  some (2, .iload 4, .iload 4, []), none, some (3, .if_icmp .eq 13, .if_icmp .eq 56, []), none, none, some (1, .aload_n 0, .aload_n 0, []), some (1, .dup, .dup, []), 
  some (3, .getfield 210, .getfield 13, [188]), none, none, some (1, .iconst 1, .iconst 1, []), some (1, .iadd, .iadd, []), some (3, .putfield 210, .putfield 13, [188]), 
  none, none, some (1, .aload_n 1, .aload_n 1, []), some (3, .getfield 196, .getfield 195, [525]), none, none, some (2, .iload 5, .iload 5, []), none, 
  some (2, .iload 4, .iload 4, []), none, some (1, .iastore, .iastore, []), some (2, .iload 4, .iload 4, []), none, some (1, .iload_n 2, .iload_n 2, []), 
  some (1, .iadd, .iadd, []), some (2, .istore 4, .istore 4, []), none, some (3, .iinc 5 1, .iinc 5 1, []), none, none, some (3, .goto (-68), .goto 6, []), 
  none, none, some (2, .iload 4, .iload 4, []), none, some (1, .ireturn, .ireturn, [])])
def mj_PT_layBlock : mv_J := (⟨"PlugTree", "layBlock", "(LPlugTree$Bridge;II)I"⟩, prog_1_method_40_code, 3, some .int, [], [], 3, 0, [
  some (1, .aload_n 0, .aload_n 0, []), some (3, .getfield 297, .getfield 72, [155]), none, none, some (1, .iload_n 1, .iload_n 1, []), some (3, .if_icmp .eq 5, .if_icmp .eq 10, []), 
  none, none, some (1, .iload_n 2, .iload_n 2, []), some (1, .ireturn, .ireturn, []), some (1, .aload_n 0, .aload_n 0, []), some (1, .iload_n 2, .iload_n 2, []), 
  some (3, .putfield 199, .putfield 70, [150]), none, none, some (1, .aload_n 0, .aload_n 0, []), some (1, .iload_n 2, .iload_n 2, []), some (1, .iload_n 1, .iload_n 1, []), 
  some (1, .iadd, .iadd, []), some (3, .putfield 54, .putfield 71, [151]), none, none, some (1, .aload_n 0, .aload_n 0, []), some (3, .getfield 54, .getfield 71, [151]), 
  none, none, some (1, .ireturn, .ireturn, [])])
def mj_PT_settle : mv_J := (⟨"PlugTree", "settle", "()I"⟩, prog_1_method_6_code, 2, some .int, [], [], 1, 0, [
  some (1, .iconst 0, .iconst 0, []), some (1, .istore_n 1, .istore_n 1, []), some (1, .iload_n 1, .iload_n 1, []), some (3, .sipush 512, .sipush 512, []), 
  none, none, some (3, .if_icmp .ge 16, .if_icmp .ge 22, []), none, none, some (1, .aload_n 0, .aload_n 0, []), some (3, .invokevirtual 126, .invokevirtual 42, [352, 219, 220]), 
  none, none, some (3, .ifCond .eq 9, .ifCond .eq 22, []), none, none, some (3, .iinc 1 1, .iinc 1 1, []), none, none, some (3, .goto (-17), .goto 2, []), 
  none, none, some (1, .iload_n 1, .iload_n 1, []), some (1, .ireturn, .ireturn, [])])
def mj_PT_decode : mv_J := (⟨"PlugTree", "decode", "(I)I"⟩, prog_1_method_15_code, 3, some .int, [], [], 2, 0, [
  some (1, .iconst 0, .iconst 0, []), some (1, .istore_n 2, .istore_n 2, []), some (1, .iload_n 2, .iload_n 2, []), some (1, .aload_n 0, .aload_n 0, []), 
  some (3, .getfield 96, .getfield 10, [185]), none, none, some (3, .if_icmp .ge 36, .if_icmp .ge 43, []), none, none, some (1, .aload_n 0, .aload_n 0, []), 
  some (3, .getfield 23, .getfield 2, [177]), none, none, some (1, .iload_n 2, .iload_n 2, []), some (1, .aaload, .aaload, []), some (3, .invokevirtual 186, .invokevirtual 28, [262, 247, 248]), 
  none, none, some (3, .ifCond .eq 18, .ifCond .eq 37, []), none, none, some (1, .aload_n 0, .aload_n 0, []), some (3, .getfield 23, .getfield 2, [177]), 
  none, none, some (1, .iload_n 2, .iload_n 2, []), some (1, .aaload, .aaload, []), some (1, .iload_n 1, .iload_n 1, []), some (3, .invokevirtual 202, .invokevirtual 29, [357, 358, 359]), 
  none, none, some (3, .ifCond .eq 5, .ifCond .eq 37, []), none, none, some (1, .iload_n 2, .iload_n 2, []), some (1, .ireturn, .ireturn, []), some (3, .iinc 2 1, .iinc 2 1, []), 
  none, none, some (3, .goto (-38), .goto 2, []), none, none, some (1, .iconst (-1), .iconst (-1), []), some (1, .ireturn, .ireturn, [])])
def mj_PT_moved : mv_J := (⟨"PlugTree", "moved", "()I"⟩, prog_1_method_18_code, 1, some .int, [], [], 1, 0, [
  some (1, .aload_n 0, .aload_n 0, []), some (3, .getfield 210, .getfield 13, [188]), none, none, some (1, .ireturn, .ireturn, [])])
def mj_PT_bridge : mv_J := (⟨"PlugTree", "bridge", "(III)I"⟩, prog_1_method_2_code, 6, some .int, [], [], 4, 0, [
  some (1, .aload_n 0, .aload_n 0, []), some (1, .iload_n 1, .iload_n 1, []), some (3, .invokevirtual 61, .invokevirtual 65, [374, 376, 16]), none, none, 
  some (2, .astore 4, .astore 4, []), none, some (1, .iload_n 2, .iload_n 2, []), some (3, .invokestatic 65, .invokestatic 67, [443, 444]), none, none, 
  some (1, .iload_n 3, .iload_n 3, []), some (1, .iconst 0, .iconst 0, []), some (3, .sipush 1000, .sipush 1000, []), none, none, some (3, .invokestatic 69, .invokestatic 66, [378, 379]), 
  none, none, some (2, .aload 4, .aload 4, []), none, some (1, .iload_n 2, .iload_n 2, []), some (3, .invokevirtual 73, .invokevirtual 26, [446, 447, 448]), 
  none, none, some (3, .ifCond .eq 28, .ifCond .eq 53, []), none, none, some (1, .aload_n 0, .aload_n 0, []), some (3, .getfield 58, .getfield 8, [183]), 
  none, none, some (2, .bipush 8, .bipush 8, []), none, some (3, .if_icmp .eq 19, .if_icmp .eq 53, []), none, none, some (2, .aload 4, .aload 4, []), none, 
  some (3, .getfield 77, .getfield 67, [140]), none, none, some (1, .iconst 4, .iconst 4, []), some (3, .if_icmp .eq 10, .if_icmp .eq 53, []), none, none, 
  some (1, .aload_n 0, .aload_n 0, []), some (3, .getfield 80, .getfield 11, [186]), none, none, some (3, .ifnull 11, .ifnull 61, []), none, none, some (3, .new 84, .instanceof 9, mt_th_PT_84086), 
  none, none, some (1, .dup, .dup, []), none, none, none, some (1, .athrow, .athrow, []), some (3, .new 9, .new 1, [77, 126, 53]), none, none, some (1, .dup, .dup, []), 
  some (1, .aload_n 0, .aload_n 0, []), some (3, .getfield 58, .getfield 8, [183]), none, none, some (2, .aload 4, .aload 4, []), none, some (1, .iload_n 3, .iload_n 3, []), 
  some (3, .invokespecial 51, .invokespecial 22, [127, 128, 129]), none, none, some (2, .astore 5, .astore 5, []), none, some (2, .aload 4, .aload 4, []), 
  none, some (3, .getfield 87, .getfield 68, [143]), none, none, some (1, .iload_n 2, .iload_n 2, []), some (2, .aload 5, .aload 5, []), none, some (1, .aastore, .aastore, []), 
  some (1, .aload_n 0, .aload_n 0, []), some (3, .getfield 11, .getfield 0, [175]), none, none, some (1, .aload_n 0, .aload_n 0, []), some (3, .getfield 58, .getfield 8, [183]), 
  none, none, some (2, .aload 5, .aload 5, []), none, some (1, .aastore, .aastore, []), some (1, .aload_n 0, .aload_n 0, []), some (1, .dup, .dup, []), 
  some (3, .getfield 58, .getfield 8, [183]), none, none, some (1, .dup_x1, .dup_x1, []), some (1, .iconst 1, .iconst 1, []), some (1, .iadd, .iadd, []), 
  some (3, .putfield 58, .putfield 8, [183]), none, none, some (1, .ireturn, .ireturn, [])])
def mj_PT_bridgeNumbered : mv_J := (⟨"PlugTree", "bridgeNumbered", "(I)LPlugTree$Bridge;"⟩, prog_1_method_21_code, 2, some (.object "PlugTree$Bridge"), [], [], 2, 0, [
  some (1, .iload_n 1, .iload_n 1, []), some (1, .iconst 0, .iconst 0, []), some (1, .aload_n 0, .aload_n 0, []), some (3, .getfield 58, .getfield 8, [183]), 
  none, none, some (1, .iconst 1, .iconst 1, []), some (1, .isub, .isub, []), some (3, .invokestatic 69, .invokestatic 66, [378, 379]), none, none, some (1, .aload_n 0, .aload_n 0, []), 
  some (3, .getfield 11, .getfield 0, [175]), none, none, some (1, .iload_n 1, .iload_n 1, []), some (1, .aaload, .aaload, []), some (1, .areturn, .areturn, [])
  ])
def mj_PT_requireWithin : mv_J := (⟨"PlugTree", "requireWithin", "(III)V"⟩, prog_1_method_19_code, 3, none, [], [], 3, 0, [
  some (1, .iload_n 0, .iload_n 0, []), some (1, .iload_n 1, .iload_n 1, []), some (3, .if_icmp .lt 8, .if_icmp .lt 10, []), none, none, some (1, .iload_n 0, .iload_n 0, []), 
  some (1, .iload_n 2, .iload_n 2, []), some (3, .if_icmp .le 11, .if_icmp .le 18, []), none, none, some (3, .new 150, .instanceof 8, mt_th_PT_150152), 
  none, none, some (1, .dup, .dup, []), none, none, none, some (1, .athrow, .athrow, []), some (1, .return_, .return_, [])])
def mj_PT_requireSlot : mv_J := (⟨"PlugTree", "requireSlot", "(I)V"⟩, prog_1_method_20_code, 1, none, [], [], 1, 0, [
  some (1, .iload_n 0, .iload_n 0, []), some (1, .iconst 0, .iconst 0, []), some (1, .iconst 3, .iconst 3, []), some (3, .invokestatic 69, .invokestatic 66, [378, 379]), 
  none, none, some (1, .return_, .return_, [])])
def mj_PT_type : mv_J := (⟨"PlugTree", "type", "(IIIIZ)I"⟩, prog_1_method_3_code, 6, some .int, [], [], 6, 0, [
  some (1, .iload_n 1, .iload_n 1, []), some (1, .iconst (-1), .iconst (-1), []), some (2, .bipush 10, .bipush 10, []), none, some (3, .invokestatic 69, .invokestatic 66, [378, 379]), 
  none, none, some (1, .iload_n 2, .iload_n 2, []), some (1, .iconst (-1), .iconst (-1), []), some (2, .bipush 10, .bipush 10, []), none, some (3, .invokestatic 69, .invokestatic 66, [378, 379]), 
  none, none, some (1, .iload_n 3, .iload_n 3, []), some (1, .iconst (-1), .iconst (-1), []), some (2, .bipush 10, .bipush 10, []), none, some (3, .invokestatic 69, .invokestatic 66, [378, 379]), 
  none, none, some (2, .iload 4, .iload 4, []), none, some (1, .iconst 0, .iconst 0, []), some (3, .sipush 1000, .sipush 1000, []), none, none, some (3, .invokestatic 69, .invokestatic 66, [378, 379]), 
  none, none, some (1, .aload_n 0, .aload_n 0, []), some (3, .getfield 90, .getfield 9, [184]), none, none, some (2, .bipush 16, .bipush 16, []), none, 
  some (3, .if_icmp .ne 11, .if_icmp .ne 47, []), none, none, some (3, .new 84, .instanceof 9, mt_th_PT_84086), none, none, some (1, .dup, .dup, []), none, 
  none, none, some (1, .athrow, .athrow, []), some (1, .aload_n 0, .aload_n 0, []), some (3, .getfield 17, .getfield 1, [176]), none, none, some (1, .aload_n 0, .aload_n 0, []), 
  some (3, .getfield 90, .getfield 9, [184]), none, none, some (3, .new 15, .new 2, [79, 472, 60]), none, none, some (1, .dup, .dup, []), some (1, .iload_n 1, .iload_n 1, []), 
  some (1, .iload_n 2, .iload_n 2, []), some (1, .iload_n 3, .iload_n 3, []), some (2, .iload 4, .iload 4, []), none, some (2, .iload 5, .iload 5, []), 
  none, some (3, .invokespecial 93, .invokespecial 19, [473, 474, 475]), none, none, some (1, .aastore, .aastore, []), some (1, .aload_n 0, .aload_n 0, []), 
  some (1, .dup, .dup, []), some (3, .getfield 90, .getfield 9, [184]), none, none, some (1, .dup_x1, .dup_x1, []), some (1, .iconst 1, .iconst 1, []), 
  some (1, .iadd, .iadd, []), some (3, .putfield 90, .putfield 9, [184]), none, none, some (1, .ireturn, .ireturn, [])])
def mj_PT_plug : mv_J := (⟨"PlugTree", "plug", "(III)I"⟩, prog_1_method_4_code, 6, some .int, [], [], 4, 0, [
  some (1, .aload_n 0, .aload_n 0, []), some (1, .iload_n 1, .iload_n 1, []), some (3, .invokevirtual 61, .invokevirtual 65, [374, 376, 16]), none, none, 
  some (2, .astore 4, .astore 4, []), none, some (1, .iload_n 2, .iload_n 2, []), some (3, .invokestatic 65, .invokestatic 67, [443, 444]), none, none, 
  some (1, .iload_n 3, .iload_n 3, []), some (1, .iconst 0, .iconst 0, []), some (1, .aload_n 0, .aload_n 0, []), some (3, .getfield 90, .getfield 9, [184]), 
  none, none, some (1, .iconst 1, .iconst 1, []), some (1, .isub, .isub, []), some (3, .invokestatic 69, .invokestatic 66, [378, 379]), none, none, some (2, .aload 4, .aload 4, []), 
  none, some (1, .iload_n 2, .iload_n 2, []), some (3, .invokevirtual 73, .invokevirtual 26, [446, 447, 448]), none, none, some (3, .ifCond .eq 19, .ifCond .eq 47, []), 
  none, none, some (1, .aload_n 0, .aload_n 0, []), some (3, .getfield 96, .getfield 10, [185]), none, none, some (2, .bipush 40, .bipush 40, []), none, 
  some (3, .if_icmp .eq 10, .if_icmp .eq 47, []), none, none, some (1, .aload_n 0, .aload_n 0, []), some (3, .getfield 80, .getfield 11, [186]), none, 
  none, some (3, .ifnull 11, .ifnull 55, []), none, none, some (3, .new 84, .instanceof 9, mt_th_PT_84086), none, none, some (1, .dup, .dup, []), none, 
  none, none, some (1, .athrow, .athrow, []), some (3, .new 21, .new 3, [81, 509, 61]), none, none, some (1, .dup, .dup, []), some (2, .aload 4, .aload 4, []), 
  none, some (1, .iload_n 2, .iload_n 2, []), some (1, .aload_n 0, .aload_n 0, []), some (3, .getfield 17, .getfield 1, [176]), none, none, some (1, .iload_n 3, .iload_n 3, []), 
  some (1, .aaload, .aaload, []), some (3, .invokespecial 99, .invokespecial 30, [510, 511, 512]), none, none, some (2, .astore 5, .astore 5, []), none, 
  some (2, .aload 4, .aload 4, []), none, some (3, .getfield 102, .getfield 69, [147]), none, none, some (1, .iload_n 2, .iload_n 2, []), some (2, .aload 5, .aload 5, []), 
  none, some (1, .aastore, .aastore, []), some (1, .aload_n 0, .aload_n 0, []), some (3, .getfield 23, .getfield 2, [177]), none, none, some (1, .aload_n 0, .aload_n 0, []), 
  some (3, .getfield 96, .getfield 10, [185]), none, none, some (2, .aload 5, .aload 5, []), none, some (1, .aastore, .aastore, []), some (2, .aload 5, .aload 5, []), 
  none, some (1, .aload_n 0, .aload_n 0, []), some (3, .getfield 96, .getfield 10, [185]), none, none, some (3, .putfield 105, .putfield 197, [528]), none, 
  none, some (1, .aload_n 0, .aload_n 0, []), some (2, .aload 5, .aload 5, []), none, some (3, .putfield 80, .putfield 11, [186]), none, none, some (1, .aload_n 0, .aload_n 0, []), 
  some (1, .iconst 0, .iconst 0, []), some (3, .putfield 108, .putfield 12, [187]), none, none, some (1, .aload_n 0, .aload_n 0, []), some (1, .dup, .dup, []), 
  some (3, .getfield 96, .getfield 10, [185]), none, none, some (1, .dup_x1, .dup_x1, []), some (1, .iconst 1, .iconst 1, []), some (1, .iadd, .iadd, []), 
  some (3, .putfield 96, .putfield 10, [185]), none, none, some (1, .ireturn, .ireturn, [])])
def mj_PT_pull : mv_J := (⟨"PlugTree", "pull", "(I)I"⟩, prog_1_method_7_code, 3, some .int, [], [], 2, 0, [
  some (1, .aload_n 0, .aload_n 0, []), some (1, .iload_n 1, .iload_n 1, []), some (3, .invokevirtual 129, .invokevirtual 71, [567, 569, 18]), none, none, 
  some (1, .astore_n 2, .astore_n 2, []), some (1, .aload_n 2, .aload_n 2, []), some (3, .getfield 133, .getfield 198, [530]), none, none, some (1, .iconst 4, .iconst 4, []), 
  some (3, .if_icmp .eq 11, .if_icmp .eq 22, []), none, none, some (1, .aload_n 2, .aload_n 2, []), some (3, .getfield 133, .getfield 198, [530]), none, 
  none, some (1, .iconst 5, .iconst 5, []), some (3, .if_icmp .ne 11, .if_icmp .ne 30, []), none, none, some (3, .new 84, .instanceof 9, mt_th_PT_84086), 
  none, none, some (1, .dup, .dup, []), none, none, none, some (1, .athrow, .athrow, []), some (1, .aload_n 2, .aload_n 2, []), some (1, .aload_n 0, .aload_n 0, []), 
  some (3, .getfield 80, .getfield 11, [186]), none, none, some (3, .if_acmp .ne 21, .if_acmp .ne 56, []), none, none, some (1, .aload_n 0, .aload_n 0, []), 
  some (1, .aconst_null, .aconst_null, []), some (3, .putfield 80, .putfield 11, [186]), none, none, some (1, .aload_n 0, .aload_n 0, []), some (3, .getfield 108, .getfield 12, [187]), 
  none, none, some (3, .ifCond .eq 9, .ifCond .eq 56, []), none, none, some (1, .aload_n 0, .aload_n 0, []), some (1, .iconst 2, .iconst 2, []), some (1, .iconst 1, .iconst 1, []), 
  some (3, .invokevirtual 136, .invokevirtual 55, [325, 327, 11]), none, none, some (1, .aload_n 2, .aload_n 2, []), some (1, .iconst 4, .iconst 4, []), 
  some (3, .invokevirtual 140, .invokevirtual 27, [226, 227, 228]), none, none, some (1, .aload_n 2, .aload_n 2, []), some (1, .iconst 0, .iconst 0, []), 
  some (3, .invokevirtual 143, .invokevirtual 31, [571, 572, 573]), none, none, some (1, .ireturn, .ireturn, [])])
def mj_PT_cardNumbered : mv_J := (⟨"PlugTree", "cardNumbered", "(I)LPlugTree$Card;"⟩, prog_1_method_22_code, 2, some (.object "PlugTree$Card"), [], [], 2, 0, [
  some (1, .iload_n 1, .iload_n 1, []), some (1, .iconst 0, .iconst 0, []), some (1, .aload_n 0, .aload_n 0, []), some (3, .getfield 96, .getfield 10, [185]), 
  none, none, some (1, .iconst 1, .iconst 1, []), some (1, .isub, .isub, []), some (3, .invokestatic 69, .invokestatic 66, [378, 379]), none, none, some (1, .aload_n 0, .aload_n 0, []), 
  some (3, .getfield 23, .getfield 2, [177]), none, none, some (1, .iload_n 1, .iload_n 1, []), some (1, .aaload, .aaload, []), some (1, .areturn, .areturn, [])
  ])
def mj_PT_leave : mv_J := (⟨"PlugTree", "leave", "(I)I"⟩, prog_1_method_8_code, 3, some .int, [], [], 2, 0, [
  some (1, .aload_n 0, .aload_n 0, []), some (1, .iload_n 1, .iload_n 1, []), some (3, .invokevirtual 129, .invokevirtual 71, [567, 569, 18]), none, none, 
  some (1, .astore_n 2, .astore_n 2, []), some (1, .aload_n 2, .aload_n 2, []), some (3, .getfield 133, .getfield 198, [530]), none, none, some (1, .iconst 1, .iconst 1, []), 
  some (3, .if_icmp .eq 11, .if_icmp .eq 22, []), none, none, some (3, .new 84, .instanceof 9, mt_th_PT_84086), none, none, some (1, .dup, .dup, []), none, 
  none, none, some (1, .athrow, .athrow, []), some (1, .aload_n 2, .aload_n 2, []), some (1, .iconst 3, .iconst 3, []), some (3, .putfield 133, .putfield 198, [530]), 
  none, none, some (1, .aload_n 2, .aload_n 2, []), some (1, .aload_n 2, .aload_n 2, []), some (3, .getfield 147, .getfield 201, [535]), none, none, some (3, .ifCond .le 7, .ifCond .le 39, []), 
  none, none, some (1, .iconst 1, .iconst 1, []), some (3, .goto 4, .goto 40, []), none, none, some (1, .iconst 0, .iconst 0, []), some (3, .invokevirtual 143, .invokevirtual 31, [571, 572, 573]), 
  none, none, some (1, .ireturn, .ireturn, [])])
def mj_PT_request : mv_J := (⟨"PlugTree", "request", "(III)I"⟩, prog_1_method_9_code, 7, some .int, [], [], 4, 0, [
  some (1, .aload_n 0, .aload_n 0, []), some (1, .iload_n 1, .iload_n 1, []), some (3, .invokevirtual 129, .invokevirtual 71, [567, 569, 18]), none, none, 
  some (2, .astore 4, .astore 4, []), none, some (1, .iload_n 2, .iload_n 2, []), some (3, .ifCond .ge 11, .ifCond .ge 19, []), none, none, some (3, .new 150, .instanceof 8, mt_th_PT_150152), 
  none, none, some (1, .dup, .dup, []), none, none, none, some (1, .athrow, .athrow, []), some (2, .aload 4, .aload 4, []), none, some (3, .getfield 133, .getfield 198, [530]), 
  none, none, some (1, .iconst 1, .iconst 1, []), some (3, .if_icmp .eq 12, .if_icmp .eq 37, []), none, none, some (2, .aload 4, .aload 4, []), none, some (3, .getfield 133, .getfield 198, [530]), 
  none, none, some (1, .iconst 2, .iconst 2, []), some (3, .if_icmp .ne 7, .if_icmp .ne 41, []), none, none, some (1, .iconst 1, .iconst 1, []), some (3, .goto 4, .goto 42, []), 
  none, none, some (1, .iconst 0, .iconst 0, []), some (2, .istore 5, .istore 5, []), none, some (2, .iload 5, .iload 5, []), none, some (3, .ifCond .eq 26, .ifCond .eq 72, []), 
  none, none, some (2, .aload 4, .aload 4, []), none, some (3, .getfield 153, .getfield 200, [533]), none, none, some (2, .bipush 8, .bipush 8, []), none, 
  some (3, .if_icmp .eq 16, .if_icmp .eq 72, []), none, none, some (1, .aload_n 0, .aload_n 0, []), some (3, .getfield 30, .getfield 3, [178]), none, none, 
  some (3, .invokevirtual 156, .invokevirtual 3, [590, 591, 592]), none, none, some (3, .sipush 512, .sipush 512, []), none, none, some (3, .if_icmp .lt 11, .if_icmp .lt 80, []), 
  none, none, some (3, .new 84, .instanceof 9, mt_th_PT_84086), none, none, some (1, .dup, .dup, []), none, none, none, some (1, .athrow, .athrow, []), 
  some (3, .new 160, .new 4, [594, 595, 63]), none, none, some (1, .dup, .dup, []), some (1, .iload_n 2, .iload_n 2, []), some (1, .iload_n 3, .iload_n 3, []), 
  some (3, .invokespecial 162, .invokespecial 17, [596, 597, 598]), none, none, some (2, .astore 6, .astore 6, []), none, some (2, .aload 4, .aload 4, []), 
  none, some (3, .getfield 164, .getfield 196, [527]), none, none, some (2, .aload 4, .aload 4, []), none, some (3, .getfield 153, .getfield 200, [533]), 
  none, none, some (2, .aload 6, .aload 6, []), none, some (1, .aastore, .aastore, []), some (2, .aload 4, .aload 4, []), none, some (1, .dup, .dup, []), 
  some (3, .getfield 153, .getfield 200, [533]), none, none, some (1, .iconst 1, .iconst 1, []), some (1, .iadd, .iadd, []), some (3, .putfield 153, .putfield 200, [533]), 
  none, none, some (1, .aload_n 0, .aload_n 0, []), some (3, .getfield 30, .getfield 3, [178]), none, none, some (2, .aload 6, .aload 6, []), none, some (3, .invokevirtual 168, .invokevirtual 4, [615, 616, 617]), 
  none, none, some (1, .pop, .pop, []), some (1, .aload_n 0, .aload_n 0, []), some (3, .getfield 30, .getfield 3, [178]), none, none, some (3, .invokevirtual 156, .invokevirtual 3, [590, 591, 592]), 
  none, none, some (1, .iconst 1, .iconst 1, []), some (1, .isub, .isub, []), some (1, .ireturn, .ireturn, [])])
def mj_PT_work : mv_J := (⟨"PlugTree", "work", "(I)Z"⟩, prog_1_method_10_code, 2, some .boolean, [], [], 2, 0, [
  some (1, .aload_n 0, .aload_n 0, []), some (1, .iload_n 1, .iload_n 1, []), some (3, .invokevirtual 129, .invokevirtual 71, [567, 569, 18]), none, none, 
  some (3, .invokevirtual 172, .invokevirtual 32, [677, 678, 679]), none, none, some (1, .ireturn, .ireturn, [])])
def mj_PT_result : mv_J := (⟨"PlugTree", "result", "(I)J"⟩, prog_1_method_11_code, 2, some .long, [], [], 2, 0, [
  some (1, .iload_n 1, .iload_n 1, []), some (1, .iconst 0, .iconst 0, []), some (1, .aload_n 0, .aload_n 0, []), some (3, .getfield 30, .getfield 3, [178]), 
  none, none, some (3, .invokevirtual 156, .invokevirtual 3, [590, 591, 592]), none, none, some (1, .iconst 1, .iconst 1, []), some (1, .isub, .isub, []), 
  some (3, .invokestatic 69, .invokestatic 66, [378, 379]), none, none, some (1, .aload_n 0, .aload_n 0, []), some (3, .getfield 30, .getfield 3, [178]), 
  none, none, some (1, .iload_n 1, .iload_n 1, []), some (3, .invokevirtual 175, .invokevirtual 8, [692, 693, 694]), none, none, some (3, .checkcast 160, .checkcast 4, [594]), 
  none, none, some (3, .getfield 179, .getfield 258, [607]), none, none, some (1, .lreturn, .lreturn, [])])
def mj_PT_card : mv_J := (⟨"PlugTree", "card", "(II)I"⟩, prog_1_method_12_code, 4, some .int, [], [], 3, 0, [
  some (1, .aload_n 0, .aload_n 0, []), some (1, .iload_n 1, .iload_n 1, []), some (3, .invokevirtual 129, .invokevirtual 71, [567, 569, 18]), none, none, 
  some (1, .astore_n 3, .astore_n 3, []), some (1, .iload_n 2, .iload_n 2, []), some (29, .tableswitch 49 0 3 #[29, 34, 39, 44], .tableswitch 56 0 3 #[36, 41, 46, 51], []), 
  none, none, none, none, none, none, none, none, none, none, none, none, none, none, none, none, none, none, none, none, none, none, none, none, none, 
  none, none, none, some (1, .aload_n 3, .aload_n 3, []), some (3, .getfield 133, .getfield 198, [530]), none, none, some (1, .ireturn, .ireturn, []), 
  some (1, .aload_n 3, .aload_n 3, []), some (3, .getfield 183, .getfield 199, [531]), none, none, some (1, .ireturn, .ireturn, []), some (1, .aload_n 3, .aload_n 3, []), 
  some (3, .getfield 153, .getfield 200, [533]), none, none, some (1, .ireturn, .ireturn, []), some (1, .aload_n 3, .aload_n 3, []), some (3, .getfield 147, .getfield 201, [535]), 
  none, none, some (1, .ireturn, .ireturn, []), some (3, .new 150, .instanceof 8, mt_th_PT_150152), none, none, some (1, .dup, .dup, []), none, none, none, 
  some (1, .athrow, .athrow, [])])
def mj_PT_range : mv_J := (⟨"PlugTree", "range", "(II)I"⟩, prog_1_method_13_code, 4, some .int, [], [], 3, 0, [
  some (1, .aload_n 0, .aload_n 0, []), some (1, .iload_n 1, .iload_n 1, []), some (3, .invokevirtual 129, .invokevirtual 71, [567, 569, 18]), none, none, 
  some (1, .astore_n 3, .astore_n 3, []), some (1, .iload_n 2, .iload_n 2, []), some (1, .iconst 0, .iconst 0, []), some (1, .iconst 2, .iconst 2, []), 
  some (3, .invokestatic 69, .invokestatic 66, [378, 379]), none, none, some (1, .aload_n 3, .aload_n 3, []), some (3, .invokevirtual 186, .invokevirtual 28, [262, 247, 248]), 
  none, none, some (3, .ifCond .eq 24, .ifCond .eq 40, []), none, none, some (1, .aload_n 3, .aload_n 3, []), some (3, .getfield 189, .getfield 194, [522]), 
  none, none, some (3, .getfield 193, .getfield 128, [486]), none, none, some (1, .iload_n 2, .iload_n 2, []), some (1, .iaload, .iaload, []), some (3, .ifCond .le 12, .ifCond .le 40, []), 
  none, none, some (1, .aload_n 3, .aload_n 3, []), some (3, .getfield 196, .getfield 195, [525]), none, none, some (1, .iload_n 2, .iload_n 2, []), some (1, .iaload, .iaload, []), 
  some (3, .goto 4, .goto 41, []), none, none, some (1, .iconst (-1), .iconst (-1), []), some (1, .ireturn, .ireturn, [])])
def mj_PT_opening : mv_J := (⟨"PlugTree", "opening", "(IZ)I"⟩, prog_1_method_14_code, 4, some .int, [], [], 3, 0, [
  some (1, .aload_n 0, .aload_n 0, []), some (1, .iload_n 1, .iload_n 1, []), some (3, .invokevirtual 61, .invokevirtual 65, [374, 376, 16]), none, none, 
  some (1, .astore_n 3, .astore_n 3, []), some (1, .iload_n 2, .iload_n 2, []), some (3, .ifCond .eq 10, .ifCond .eq 17, []), none, none, some (1, .aload_n 3, .aload_n 3, []), 
  some (3, .getfield 54, .getfield 71, [151]), none, none, some (3, .goto 7, .goto 21, []), none, none, some (1, .aload_n 3, .aload_n 3, []), some (3, .getfield 199, .getfield 70, [150]), 
  none, none, some (1, .ireturn, .ireturn, [])])
def mj_PT_power : mv_J := (⟨"PlugTree", "power", "(I)I"⟩, prog_1_method_16_code, 2, some .int, [], [], 2, 0, [
  some (1, .aload_n 0, .aload_n 0, []), some (1, .aload_n 0, .aload_n 0, []), some (1, .iload_n 1, .iload_n 1, []), some (3, .invokevirtual 61, .invokevirtual 65, [374, 376, 16]), 
  none, none, some (3, .invokevirtual 205, .invokevirtual 46, [258, 260, 3]), none, none, some (1, .ireturn, .ireturn, [])])
def mj_PT_slot : mv_J := (⟨"PlugTree", "slot", "(II)I"⟩, prog_1_method_17_code, 4, some .int, [], [], 3, 0, [
  some (1, .aload_n 0, .aload_n 0, []), some (1, .iload_n 1, .iload_n 1, []), some (3, .invokevirtual 61, .invokevirtual 65, [374, 376, 16]), none, none, 
  some (1, .astore_n 3, .astore_n 3, []), some (1, .iload_n 2, .iload_n 2, []), some (3, .invokestatic 65, .invokestatic 67, [443, 444]), none, none, some (1, .aload_n 3, .aload_n 3, []), 
  some (3, .getfield 87, .getfield 68, [143]), none, none, some (1, .iload_n 2, .iload_n 2, []), some (1, .aaload, .aaload, []), some (3, .ifnull 13, .ifnull 29, []), 
  none, none, some (1, .aload_n 3, .aload_n 3, []), some (3, .getfield 87, .getfield 68, [143]), none, none, some (1, .iload_n 2, .iload_n 2, []), some (1, .aaload, .aaload, []), 
  some (3, .getfield 209, .getfield 64, [134]), none, none, some (1, .ireturn, .ireturn, []), some (1, .aload_n 3, .aload_n 3, []), some (3, .getfield 102, .getfield 69, [147]), 
  none, none, some (1, .iload_n 2, .iload_n 2, []), some (1, .aaload, .aaload, []), some (3, .ifnull 18, .ifnull 53, []), none, none, some (2, .bipush 100, .bipush 100, []), 
  none, some (1, .aload_n 3, .aload_n 3, []), some (3, .getfield 102, .getfield 69, [147]), none, none, some (1, .iload_n 2, .iload_n 2, []), some (1, .aaload, .aaload, []), 
  some (3, .getfield 105, .getfield 197, [528]), none, none, some (1, .iadd, .iadd, []), some (3, .goto 4, .goto 54, []), none, none, some (1, .iconst (-1), .iconst (-1), []), 
  some (1, .ireturn, .ireturn, [])])
def mj_Mo_init : mv_J := (⟨"PlugTreeModel", "<init>", "()V"⟩, prog_8_method_1_code, 2, none, [], [], 1, 6, [
  some (1, .aload_n 0, .aload_n 0, []), some (3, .invokespecial 1, .monitorexit, [746, 75, 76]), none, none, some (1, .aload_n 0, .aload_n 0, []), some (1, .iconst 1, .iconst 1, []), 
  some (3, .putfield 7, .putfield 385, [748]), none, none, some (1, .aload_n 0, .aload_n 0, []), some (2, .bipush 32, .bipush 32, []), none, some (2, .newarray .int, .newarray .int, [125]), 
  none, some (3, .putfield 13, .putfield 386, [749]), none, none, some (1, .aload_n 0, .aload_n 0, []), some (2, .bipush 8, .bipush 8, []), none, some (2, .newarray .int, .newarray .int, [125]), 
  none, some (3, .putfield 17, .putfield 387, [750]), none, none, some (1, .aload_n 0, .aload_n 0, []), some (2, .bipush 8, .bipush 8, []), none, some (2, .newarray .int, .newarray .int, [125]), 
  none, some (3, .putfield 20, .putfield 388, [751]), none, none, some (1, .aload_n 0, .aload_n 0, []), some (2, .bipush 8, .bipush 8, []), none, some (2, .newarray .int, .newarray .int, [125]), 
  none, some (3, .putfield 23, .putfield 389, [752]), none, none, some (1, .aload_n 0, .aload_n 0, []), some (2, .bipush 8, .bipush 8, []), none, some (2, .newarray .int, .newarray .int, [125]), 
  none, some (3, .putfield 26, .putfield 390, [753]), none, none, some (1, .aload_n 0, .aload_n 0, []), some (2, .bipush 8, .bipush 8, []), none, some (2, .newarray .int, .newarray .int, [125]), 
  none, some (3, .putfield 29, .putfield 391, [754]), none, none, some (1, .aload_n 0, .aload_n 0, []), some (2, .bipush 48, .bipush 48, []), none, some (2, .newarray .int, .newarray .int, [125]), 
  none, some (3, .putfield 32, .putfield 393, [756]), none, none, some (1, .aload_n 0, .aload_n 0, []), some (2, .bipush 16, .bipush 16, []), none, some (2, .newarray .int, .newarray .int, [125]), 
  none, some (3, .putfield 35, .putfield 394, [757]), none, none, some (1, .aload_n 0, .aload_n 0, []), some (2, .bipush 16, .bipush 16, []), none, some (2, .newarray .boolean, .newarray .boolean, [841]), 
  none, some (3, .putfield 38, .putfield 395, [758]), none, none, some (1, .aload_n 0, .aload_n 0, []), some (2, .bipush 40, .bipush 40, []), none, some (2, .newarray .int, .newarray .int, [125]), 
  none, some (3, .putfield 42, .putfield 397, [760]), none, none, some (1, .aload_n 0, .aload_n 0, []), some (2, .bipush 40, .bipush 40, []), none, some (2, .newarray .int, .newarray .int, [125]), 
  none, some (3, .putfield 45, .putfield 398, [761]), none, none, some (1, .aload_n 0, .aload_n 0, []), some (2, .bipush 40, .bipush 40, []), none, some (2, .newarray .int, .newarray .int, [125]), 
  none, some (3, .putfield 48, .putfield 399, [762]), none, none, some (1, .aload_n 0, .aload_n 0, []), some (2, .bipush 40, .bipush 40, []), none, some (2, .newarray .int, .newarray .int, [125]), 
  none, some (3, .putfield 51, .putfield 400, [763]), none, none, some (1, .aload_n 0, .aload_n 0, []), some (2, .bipush 120, .bipush 120, []), none, some (2, .newarray .int, .newarray .int, [125]), 
  none, some (3, .putfield 54, .putfield 401, [764]), none, none, some (1, .aload_n 0, .aload_n 0, []), some (2, .bipush 120, .bipush 120, []), none, some (2, .newarray .int, .newarray .int, [125]), 
  none, some (3, .putfield 57, .putfield 402, [765]), none, none, some (1, .aload_n 0, .aload_n 0, []), some (2, .bipush 40, .bipush 40, []), none, some (2, .newarray .int, .newarray .int, [125]), 
  none, some (3, .putfield 60, .putfield 403, [766]), none, none, some (1, .aload_n 0, .aload_n 0, []), some (2, .bipush 40, .bipush 40, []), none, some (2, .newarray .int, .newarray .int, [125]), 
  none, some (3, .putfield 63, .putfield 404, [767]), none, none, some (1, .aload_n 0, .aload_n 0, []), some (1, .iconst (-1), .iconst (-1), []), some (3, .putfield 66, .putfield 405, [768]), 
  none, none, some (1, .aload_n 0, .aload_n 0, []), some (3, .sipush 512, .sipush 512, []), none, none, some (2, .newarray .int, .newarray .int, [125]), 
  none, some (3, .putfield 69, .putfield 409, [772]), none, none, some (1, .aload_n 0, .aload_n 0, []), some (3, .sipush 512, .sipush 512, []), none, none, 
  some (2, .newarray .int, .newarray .int, [125]), none, some (3, .putfield 72, .putfield 410, [773]), none, none, some (1, .aload_n 0, .aload_n 0, []), 
  some (3, .sipush 512, .sipush 512, []), none, none, some (2, .newarray .int, .newarray .int, [125]), none, some (3, .putfield 75, .putfield 411, [774]), 
  none, none, some (1, .aload_n 0, .aload_n 0, []), some (3, .sipush 512, .sipush 512, []), none, none, some (2, .newarray .long, .newarray .long, [842]), 
  none, some (3, .putfield 78, .putfield 412, [775]), none, none, some (1, .aload_n 0, .aload_n 0, []), some (3, .sipush 4096, .sipush 4096, []), none, 
  none, some (2, .newarray .boolean, .newarray .boolean, [841]), none, some (3, .putfield 82, .putfield 413, [776]), none, none, some (1, .aload_n 0, .aload_n 0, []), 
  some (3, .sipush 4096, .sipush 4096, []), none, none, some (2, .newarray .boolean, .newarray .boolean, [841]), none, some (3, .putfield 85, .putfield 414, [777]), 
  none, none, some (1, .iconst 0, .iconst 0, []), some (1, .istore_n 1, .istore_n 1, []), some (1, .iload_n 1, .iload_n 1, []), some (2, .bipush 32, .bipush 32, []), 
  none, some (3, .if_icmp .ge 16, .if_icmp .ge 225, []), none, none, some (1, .aload_n 0, .aload_n 0, []), some (3, .getfield 13, .getfield 386, [749]), 
  none, none, some (1, .iload_n 1, .iload_n 1, []), some (1, .iconst (-1), .iconst (-1), []), some (1, .iastore, .iastore, []), some (3, .iinc 1 1, .iinc 1 1, []), 
  none, none, some (3, .goto (-16), .goto 206, []), none, none, some (1, .iconst 0, .iconst 0, []), some (1, .istore_n 1, .istore_n 1, []), some (1, .iload_n 1, .iload_n 1, []), 
  some (2, .bipush 8, .bipush 8, []), none, some (3, .if_icmp .ge 16, .if_icmp .ge 246, []), none, none, some (1, .aload_n 0, .aload_n 0, []), some (3, .getfield 17, .getfield 387, [750]), 
  none, none, some (1, .iload_n 1, .iload_n 1, []), some (1, .iconst (-1), .iconst (-1), []), some (1, .iastore, .iastore, []), some (3, .iinc 1 1, .iinc 1 1, []), 
  none, none, some (3, .goto (-16), .goto 227, []), none, none, some (1, .aload_n 0, .aload_n 0, []), some (3, .getfield 20, .getfield 388, [751]), none, 
  none, some (1, .iconst 0, .iconst 0, []), some (3, .sipush 1000, .sipush 1000, []), none, none, some (1, .iastore, .iastore, []), some (1, .aload_n 0, .aload_n 0, []), 
  some (3, .getfield 26, .getfield 390, [753]), none, none, some (1, .iconst 0, .iconst 0, []), some (3, .sipush 4096, .sipush 4096, []), none, none, some (1, .iastore, .iastore, []), 
  some (1, .return_, .return_, [])])
def mj_Mo_thrown : mv_J := (⟨"PlugTreeModel", "thrown", "()I"⟩, prog_8_method_2_code, 1, some .int, [], [], 1, 6, [
  some (1, .aload_n 0, .aload_n 0, []), some (3, .getfield 88, .getfield 384, [747]), none, none, some (1, .ireturn, .ireturn, [])])
def mj_Mo_bridge : mv_J := (⟨"PlugTreeModel", "bridge", "(III)I"⟩, prog_8_method_7_code, 4, some .int, [], [], 4, 6, [
  some (1, .aload_n 0, .aload_n 0, []), some (1, .aload_n 0, .aload_n 0, []), some (1, .iload_n 1, .iload_n 1, []), some (3, .invokevirtual 94, .invokevirtual 84, [851, 853, 22]), 
  none, none, some (3, .ifCond .eq 27, .ifCond .eq 33, []), none, none, some (1, .iload_n 2, .iload_n 2, []), some (1, .iconst 0, .iconst 0, []), some (1, .iconst 3, .iconst 3, []), 
  some (3, .invokestatic 98, .invokestatic 85, [855, 856]), none, none, some (3, .ifCond .eq 18, .ifCond .eq 33, []), none, none, some (1, .iload_n 3, .iload_n 3, []), 
  some (1, .iconst 0, .iconst 0, []), some (3, .sipush 1000, .sipush 1000, []), none, none, some (3, .invokestatic 98, .invokestatic 85, [855, 856]), none, 
  none, some (3, .ifCond .eq 7, .ifCond .eq 33, []), none, none, some (1, .iconst 0, .iconst 0, []), some (3, .goto 4, .goto 34, []), none, none, some (1, .iconst 1, .iconst 1, []), 
  some (3, .putfield 88, .putfield 384, [747]), none, none, some (1, .aload_n 0, .aload_n 0, []), some (3, .getfield 88, .getfield 384, [747]), none, none, 
  some (3, .ifCond .ne 47, .ifCond .ne 88, []), none, none, some (1, .aload_n 0, .aload_n 0, []), some (3, .getfield 13, .getfield 386, [749]), none, none, 
  some (1, .iconst 4, .iconst 4, []), some (1, .iload_n 1, .iload_n 1, []), some (1, .imul, .imul, []), some (1, .iload_n 2, .iload_n 2, []), some (1, .iadd, .iadd, []), 
  some (1, .iaload, .iaload, []), some (1, .iconst (-1), .iconst (-1), []), some (3, .if_icmp .ne 28, .if_icmp .ne 83, []), none, none, some (1, .aload_n 0, .aload_n 0, []), 
  some (3, .getfield 7, .getfield 385, [748]), none, none, some (2, .bipush 8, .bipush 8, []), none, some (3, .if_icmp .eq 19, .if_icmp .eq 83, []), none, 
  none, some (1, .aload_n 0, .aload_n 0, []), some (1, .iload_n 1, .iload_n 1, []), some (3, .invokevirtual 102, .invokevirtual 86, [858, 860, 23]), none, 
  none, some (1, .iconst 4, .iconst 4, []), some (3, .if_icmp .eq 10, .if_icmp .eq 83, []), none, none, some (1, .aload_n 0, .aload_n 0, []), some (3, .getfield 66, .getfield 405, [768]), 
  none, none, some (3, .ifCond .lt 8, .ifCond .lt 88, []), none, none, some (1, .aload_n 0, .aload_n 0, []), some (1, .iconst 2, .iconst 2, []), some (3, .putfield 88, .putfield 384, [747]), 
  none, none, some (1, .aload_n 0, .aload_n 0, []), some (3, .getfield 88, .getfield 384, [747]), none, none, some (3, .ifCond .le 5, .ifCond .le 97, []), 
  none, none, some (1, .iconst 0, .iconst 0, []), some (1, .ireturn, .ireturn, []), some (1, .aload_n 0, .aload_n 0, []), some (3, .getfield 13, .getfield 386, [749]), 
  none, none, some (1, .iconst 4, .iconst 4, []), some (1, .iload_n 1, .iload_n 1, []), some (1, .imul, .imul, []), some (1, .iload_n 2, .iload_n 2, []), 
  some (1, .iadd, .iadd, []), some (1, .aload_n 0, .aload_n 0, []), some (3, .getfield 7, .getfield 385, [748]), none, none, some (1, .iastore, .iastore, []), 
  some (1, .aload_n 0, .aload_n 0, []), some (3, .getfield 17, .getfield 387, [750]), none, none, some (1, .aload_n 0, .aload_n 0, []), some (3, .getfield 7, .getfield 385, [748]), 
  none, none, some (1, .iload_n 1, .iload_n 1, []), some (1, .iastore, .iastore, []), some (1, .aload_n 0, .aload_n 0, []), some (3, .getfield 20, .getfield 388, [751]), 
  none, none, some (1, .aload_n 0, .aload_n 0, []), some (3, .getfield 7, .getfield 385, [748]), none, none, some (1, .iload_n 3, .iload_n 3, []), some (1, .iastore, .iastore, []), 
  some (1, .aload_n 0, .aload_n 0, []), some (1, .dup, .dup, []), some (3, .getfield 7, .getfield 385, [748]), none, none, some (1, .iconst 1, .iconst 1, []), 
  some (1, .iadd, .iadd, []), some (3, .putfield 7, .putfield 385, [748]), none, none, some (1, .aload_n 0, .aload_n 0, []), some (3, .getfield 7, .getfield 385, [748]), 
  none, none, some (1, .iconst 1, .iconst 1, []), some (1, .isub, .isub, []), some (1, .ireturn, .ireturn, [])])
def mj_Mo_isBridge : mv_J := (⟨"PlugTreeModel", "isBridge", "(I)Z"⟩, prog_8_method_4_code, 2, some .boolean, [], [], 2, 6, [
  some (1, .iload_n 1, .iload_n 1, []), some (3, .ifCond .lt 15, .ifCond .lt 16, []), none, none, some (1, .iload_n 1, .iload_n 1, []), some (1, .aload_n 0, .aload_n 0, []), 
  some (3, .getfield 7, .getfield 385, [748]), none, none, some (3, .if_icmp .ge 7, .if_icmp .ge 16, []), none, none, some (1, .iconst 1, .iconst 1, []), 
  some (3, .goto 4, .goto 17, []), none, none, some (1, .iconst 0, .iconst 0, []), some (1, .ireturn, .ireturn, [])])
def mj_Mo_within : mv_J := (⟨"PlugTreeModel", "within", "(III)Z"⟩, prog_8_method_3_code, 3, some .boolean, [], [], 3, 6, [
  some (1, .iload_n 0, .iload_n 0, []), some (1, .iload_n 1, .iload_n 1, []), some (3, .if_icmp .lt 12, .if_icmp .lt 14, []), none, none, some (1, .iload_n 0, .iload_n 0, []), 
  some (1, .iload_n 2, .iload_n 2, []), some (3, .if_icmp .gt 7, .if_icmp .gt 14, []), none, none, some (1, .iconst 1, .iconst 1, []), some (3, .goto 4, .goto 15, []), 
  none, none, some (1, .iconst 0, .iconst 0, []), some (1, .ireturn, .ireturn, [])])
def mj_Mo_depthOf : mv_J := (⟨"PlugTreeModel", "depthOf", "(I)I"⟩, prog_8_method_6_code, 4, some .int, [], [], 2, 6, [
  some (1, .iconst 0, .iconst 0, []), some (1, .istore_n 2, .istore_n 2, []), some (1, .aload_n 0, .aload_n 0, []), some (3, .getfield 17, .getfield 387, [750]), 
  none, none, some (1, .iload_n 1, .iload_n 1, []), some (1, .iaload, .iaload, []), some (1, .istore_n 3, .istore_n 3, []), some (1, .iload_n 3, .iload_n 3, []), 
  some (3, .ifCond .lt 16, .ifCond .lt 26, []), none, none, some (3, .iinc 2 1, .iinc 2 1, []), none, none, some (1, .aload_n 0, .aload_n 0, []), some (3, .getfield 17, .getfield 387, [750]), 
  none, none, some (1, .iload_n 3, .iload_n 3, []), some (1, .iaload, .iaload, []), some (1, .istore_n 3, .istore_n 3, []), some (3, .goto (-14), .goto 9, []), 
  none, none, some (1, .iload_n 2, .iload_n 2, []), some (1, .ireturn, .ireturn, [])])
def mj_Mo_type : mv_J := (⟨"PlugTreeModel", "type", "(IIIIZ)I"⟩, prog_8_method_8_code, 7, some .int, [], [], 6, 6, [
  some (1, .iload_n 1, .iload_n 1, []), some (1, .iconst (-1), .iconst (-1), []), some (2, .bipush 10, .bipush 10, []), none, some (3, .invokestatic 98, .invokestatic 85, [855, 856]), 
  none, none, some (3, .ifCond .eq 39, .ifCond .eq 46, []), none, none, some (1, .iload_n 2, .iload_n 2, []), some (1, .iconst (-1), .iconst (-1), []), 
  some (2, .bipush 10, .bipush 10, []), none, some (3, .invokestatic 98, .invokestatic 85, [855, 856]), none, none, some (3, .ifCond .eq 29, .ifCond .eq 46, []), 
  none, none, some (1, .iload_n 3, .iload_n 3, []), some (1, .iconst (-1), .iconst (-1), []), some (2, .bipush 10, .bipush 10, []), none, some (3, .invokestatic 98, .invokestatic 85, [855, 856]), 
  none, none, some (3, .ifCond .eq 19, .ifCond .eq 46, []), none, none, some (2, .iload 4, .iload 4, []), none, some (1, .iconst 0, .iconst 0, []), some (3, .sipush 1000, .sipush 1000, []), 
  none, none, some (3, .invokestatic 98, .invokestatic 85, [855, 856]), none, none, some (3, .ifCond .eq 7, .ifCond .eq 46, []), none, none, some (1, .iconst 1, .iconst 1, []), 
  some (3, .goto 4, .goto 47, []), none, none, some (1, .iconst 0, .iconst 0, []), some (2, .istore 6, .istore 6, []), none, some (1, .aload_n 0, .aload_n 0, []), 
  some (2, .iload 6, .iload 6, []), none, some (3, .ifCond .ne 7, .ifCond .ne 59, []), none, none, some (1, .iconst 1, .iconst 1, []), some (3, .goto 17, .goto 73, []), 
  none, none, some (1, .aload_n 0, .aload_n 0, []), some (3, .getfield 106, .getfield 392, [755]), none, none, some (2, .bipush 16, .bipush 16, []), none, 
  some (3, .if_icmp .ne 7, .if_icmp .ne 72, []), none, none, some (1, .iconst 2, .iconst 2, []), some (3, .goto 4, .goto 73, []), none, none, some (1, .iconst 0, .iconst 0, []), 
  some (3, .putfield 88, .putfield 384, [747]), none, none, some (1, .aload_n 0, .aload_n 0, []), some (3, .getfield 88, .getfield 384, [747]), none, none, 
  some (3, .ifCond .le 5, .ifCond .le 85, []), none, none, some (1, .iconst 0, .iconst 0, []), some (1, .ireturn, .ireturn, []), some (1, .aload_n 0, .aload_n 0, []), 
  some (3, .getfield 32, .getfield 393, [756]), none, none, some (1, .iconst 3, .iconst 3, []), some (1, .aload_n 0, .aload_n 0, []), some (3, .getfield 106, .getfield 392, [755]), 
  none, none, some (1, .imul, .imul, []), some (1, .iload_n 1, .iload_n 1, []), some (3, .ifCond .ge 7, .ifCond .ge 103, []), none, none, some (1, .iconst 0, .iconst 0, []), 
  some (3, .goto 6, .goto 106, []), none, none, some (1, .iconst 1, .iconst 1, []), some (1, .iload_n 1, .iload_n 1, []), some (1, .ishl, .ishl, []), some (1, .iastore, .iastore, []), 
  some (1, .aload_n 0, .aload_n 0, []), some (3, .getfield 32, .getfield 393, [756]), none, none, some (1, .iconst 3, .iconst 3, []), some (1, .aload_n 0, .aload_n 0, []), 
  some (3, .getfield 106, .getfield 392, [755]), none, none, some (1, .imul, .imul, []), some (1, .iconst 1, .iconst 1, []), some (1, .iadd, .iadd, []), 
  some (1, .iload_n 2, .iload_n 2, []), some (3, .ifCond .ge 7, .ifCond .ge 127, []), none, none, some (1, .iconst 0, .iconst 0, []), some (3, .goto 6, .goto 130, []), 
  none, none, some (1, .iconst 1, .iconst 1, []), some (1, .iload_n 2, .iload_n 2, []), some (1, .ishl, .ishl, []), some (1, .iastore, .iastore, []), some (1, .aload_n 0, .aload_n 0, []), 
  some (3, .getfield 32, .getfield 393, [756]), none, none, some (1, .iconst 3, .iconst 3, []), some (1, .aload_n 0, .aload_n 0, []), some (3, .getfield 106, .getfield 392, [755]), 
  none, none, some (1, .imul, .imul, []), some (1, .iconst 2, .iconst 2, []), some (1, .iadd, .iadd, []), some (1, .iload_n 3, .iload_n 3, []), some (3, .ifCond .ge 7, .ifCond .ge 151, []), 
  none, none, some (1, .iconst 0, .iconst 0, []), some (3, .goto 6, .goto 154, []), none, none, some (1, .iconst 1, .iconst 1, []), some (1, .iload_n 3, .iload_n 3, []), 
  some (1, .ishl, .ishl, []), some (1, .iastore, .iastore, []), some (1, .aload_n 0, .aload_n 0, []), some (3, .getfield 35, .getfield 394, [757]), none, 
  none, some (1, .aload_n 0, .aload_n 0, []), some (3, .getfield 106, .getfield 392, [755]), none, none, some (2, .iload 4, .iload 4, []), none, some (1, .iastore, .iastore, []), 
  some (1, .aload_n 0, .aload_n 0, []), some (3, .getfield 38, .getfield 395, [758]), none, none, some (1, .aload_n 0, .aload_n 0, []), some (3, .getfield 106, .getfield 392, [755]), 
  none, none, some (2, .iload 5, .iload 5, []), none, some (1, .bastore, .bastore, []), some (1, .aload_n 0, .aload_n 0, []), some (1, .dup, .dup, []), 
  some (3, .getfield 106, .getfield 392, [755]), none, none, some (1, .iconst 1, .iconst 1, []), some (1, .iadd, .iadd, []), some (3, .putfield 106, .putfield 392, [755]), 
  none, none, some (1, .aload_n 0, .aload_n 0, []), some (3, .getfield 106, .getfield 392, [755]), none, none, some (1, .iconst 1, .iconst 1, []), some (1, .isub, .isub, []), 
  some (1, .ireturn, .ireturn, [])])
def mj_Mo_plug : mv_J := (⟨"PlugTreeModel", "plug", "(III)I"⟩, prog_8_method_9_code, 5, some .int, [], [], 4, 6, [
  some (1, .aload_n 0, .aload_n 0, []), some (1, .aload_n 0, .aload_n 0, []), some (1, .iload_n 1, .iload_n 1, []), some (3, .invokevirtual 94, .invokevirtual 84, [851, 853, 22]), 
  none, none, some (3, .ifCond .eq 28, .ifCond .eq 34, []), none, none, some (1, .iload_n 2, .iload_n 2, []), some (1, .iconst 0, .iconst 0, []), some (1, .iconst 3, .iconst 3, []), 
  some (3, .invokestatic 98, .invokestatic 85, [855, 856]), none, none, some (3, .ifCond .eq 19, .ifCond .eq 34, []), none, none, some (1, .iload_n 3, .iload_n 3, []), 
  some (3, .ifCond .lt 15, .ifCond .lt 34, []), none, none, some (1, .iload_n 3, .iload_n 3, []), some (1, .aload_n 0, .aload_n 0, []), some (3, .getfield 106, .getfield 392, [755]), 
  none, none, some (3, .if_icmp .ge 7, .if_icmp .ge 34, []), none, none, some (1, .iconst 0, .iconst 0, []), some (3, .goto 4, .goto 35, []), none, none, 
  some (1, .iconst 1, .iconst 1, []), some (3, .putfield 88, .putfield 384, [747]), none, none, some (1, .aload_n 0, .aload_n 0, []), some (3, .getfield 88, .getfield 384, [747]), 
  none, none, some (3, .ifCond .ne 38, .ifCond .ne 80, []), none, none, some (1, .aload_n 0, .aload_n 0, []), some (3, .getfield 13, .getfield 386, [749]), 
  none, none, some (1, .iconst 4, .iconst 4, []), some (1, .iload_n 1, .iload_n 1, []), some (1, .imul, .imul, []), some (1, .iload_n 2, .iload_n 2, []), 
  some (1, .iadd, .iadd, []), some (1, .iaload, .iaload, []), some (1, .iconst (-1), .iconst (-1), []), some (3, .if_icmp .ne 19, .if_icmp .ne 75, []), 
  none, none, some (1, .aload_n 0, .aload_n 0, []), some (3, .getfield 91, .getfield 396, [759]), none, none, some (2, .bipush 40, .bipush 40, []), none, 
  some (3, .if_icmp .eq 10, .if_icmp .eq 75, []), none, none, some (1, .aload_n 0, .aload_n 0, []), some (3, .getfield 66, .getfield 405, [768]), none, 
  none, some (3, .ifCond .lt 8, .ifCond .lt 80, []), none, none, some (1, .aload_n 0, .aload_n 0, []), some (1, .iconst 2, .iconst 2, []), some (3, .putfield 88, .putfield 384, [747]), 
  none, none, some (1, .aload_n 0, .aload_n 0, []), some (3, .getfield 88, .getfield 384, [747]), none, none, some (3, .ifCond .le 5, .ifCond .le 89, []), 
  none, none, some (1, .iconst 0, .iconst 0, []), some (1, .ireturn, .ireturn, []), some (1, .aload_n 0, .aload_n 0, []), some (3, .getfield 13, .getfield 386, [749]), 
  none, none, some (1, .iconst 4, .iconst 4, []), some (1, .iload_n 1, .iload_n 1, []), some (1, .imul, .imul, []), some (1, .iload_n 2, .iload_n 2, []), 
  some (1, .iadd, .iadd, []), some (2, .bipush 100, .bipush 100, []), none, some (1, .aload_n 0, .aload_n 0, []), some (3, .getfield 91, .getfield 396, [759]), 
  none, none, some (1, .iadd, .iadd, []), some (1, .iastore, .iastore, []), some (1, .aload_n 0, .aload_n 0, []), some (3, .getfield 42, .getfield 397, [760]), 
  none, none, some (1, .aload_n 0, .aload_n 0, []), some (3, .getfield 91, .getfield 396, [759]), none, none, some (1, .iload_n 3, .iload_n 3, []), some (1, .iastore, .iastore, []), 
  some (1, .aload_n 0, .aload_n 0, []), some (3, .getfield 45, .getfield 398, [761]), none, none, some (1, .aload_n 0, .aload_n 0, []), some (3, .getfield 91, .getfield 396, [759]), 
  none, none, some (1, .iload_n 1, .iload_n 1, []), some (1, .iastore, .iastore, []), some (1, .aload_n 0, .aload_n 0, []), some (3, .getfield 48, .getfield 399, [762]), 
  none, none, some (1, .aload_n 0, .aload_n 0, []), some (3, .getfield 91, .getfield 396, [759]), none, none, some (1, .iconst 0, .iconst 0, []), some (1, .iastore, .iastore, []), 
  some (1, .iconst 0, .iconst 0, []), some (2, .istore 4, .istore 4, []), none, some (2, .iload 4, .iload 4, []), none, some (1, .iconst 3, .iconst 3, []), 
  some (3, .if_icmp .ge 24, .if_icmp .ge 166, []), none, none, some (1, .aload_n 0, .aload_n 0, []), some (3, .getfield 54, .getfield 401, [764]), none, 
  none, some (1, .iconst 3, .iconst 3, []), some (1, .aload_n 0, .aload_n 0, []), some (3, .getfield 91, .getfield 396, [759]), none, none, some (1, .imul, .imul, []), 
  some (2, .iload 4, .iload 4, []), none, some (1, .iadd, .iadd, []), some (1, .iconst (-1), .iconst (-1), []), some (1, .iastore, .iastore, []), some (3, .iinc 4 1, .iinc 4 1, []), 
  none, none, some (3, .goto (-24), .goto 139, []), none, none, some (1, .aload_n 0, .aload_n 0, []), some (1, .aload_n 0, .aload_n 0, []), some (3, .getfield 91, .getfield 396, [759]), 
  none, none, some (3, .putfield 66, .putfield 405, [768]), none, none, some (1, .aload_n 0, .aload_n 0, []), some (1, .iconst 0, .iconst 0, []), some (3, .putfield 109, .putfield 406, [769]), 
  none, none, some (1, .aload_n 0, .aload_n 0, []), some (1, .dup, .dup, []), some (3, .getfield 91, .getfield 396, [759]), none, none, some (1, .iconst 1, .iconst 1, []), 
  some (1, .iadd, .iadd, []), some (3, .putfield 91, .putfield 396, [759]), none, none, some (1, .aload_n 0, .aload_n 0, []), some (3, .getfield 66, .getfield 405, [768]), 
  none, none, some (1, .ireturn, .ireturn, [])])
def mj_Mo_step : mv_J := (⟨"PlugTreeModel", "step", "()Z"⟩, prog_8_method_30_code, 1, some .boolean, [], [], 1, 6, [
  some (1, .aload_n 0, .aload_n 0, []), some (1, .iconst 0, .iconst 0, []), some (3, .putfield 88, .putfield 384, [747]), none, none, some (1, .aload_n 0, .aload_n 0, []), 
  some (3, .invokevirtual 181, .invokevirtual 90, [874, 876, 24]), none, none, some (1, .ireturn, .ireturn, [])])
def mj_Mo_goOn : mv_J := (⟨"PlugTreeModel", "goOn", "()Z"⟩, prog_8_method_29_code, 3, some .boolean, [], [], 1, 6, [
  some (1, .iconst 0, .iconst 0, []), some (1, .istore_n 1, .istore_n 1, []), some (1, .iconst 0, .iconst 0, []), some (1, .istore_n 2, .istore_n 2, []), 
  some (1, .iload_n 2, .iload_n 2, []), some (1, .aload_n 0, .aload_n 0, []), some (3, .getfield 91, .getfield 396, [759]), none, none, some (3, .if_icmp .ge 36, .if_icmp .ge 45, []), 
  none, none, some (1, .aload_n 0, .aload_n 0, []), some (3, .getfield 48, .getfield 399, [762]), none, none, some (1, .iload_n 2, .iload_n 2, []), some (1, .iaload, .iaload, []), 
  some (1, .iconst 3, .iconst 3, []), some (3, .if_icmp .ne 20, .if_icmp .ne 39, []), none, none, some (1, .aload_n 0, .aload_n 0, []), some (3, .getfield 60, .getfield 403, [766]), 
  none, none, some (1, .iload_n 2, .iload_n 2, []), some (1, .iaload, .iaload, []), some (3, .ifCond .ne 11, .ifCond .ne 39, []), none, none, some (1, .aload_n 0, .aload_n 0, []), 
  some (1, .iload_n 2, .iload_n 2, []), some (1, .iconst 4, .iconst 4, []), some (3, .invokevirtual 161, .invokevirtual 91, [878, 880, 25]), none, none, 
  some (1, .iconst 1, .iconst 1, []), some (1, .istore_n 1, .istore_n 1, []), some (3, .iinc 2 1, .iinc 2 1, []), none, none, some (3, .goto (-38), .goto 4, []), 
  none, none, some (1, .aload_n 0, .aload_n 0, []), some (3, .getfield 66, .getfield 405, [768]), none, none, some (3, .ifCond .ge 5, .ifCond .ge 54, []), 
  none, none, some (1, .iload_n 1, .iload_n 1, []), some (1, .ireturn, .ireturn, []), some (1, .aload_n 0, .aload_n 0, []), some (3, .getfield 109, .getfield 406, [769]), 
  none, none, some (3, .ifCond .ne 9, .ifCond .ne 67, []), none, none, some (1, .aload_n 0, .aload_n 0, []), some (3, .invokevirtual 175, .invokevirtual 92, [882, 884, 26]), 
  none, none, some (1, .iconst 1, .iconst 1, []), some (1, .ireturn, .ireturn, []), some (1, .iconst 0, .iconst 0, []), some (1, .istore_n 2, .istore_n 2, []), 
  some (1, .iload_n 2, .iload_n 2, []), some (1, .aload_n 0, .aload_n 0, []), some (3, .getfield 91, .getfield 396, [759]), none, none, some (3, .if_icmp .ge 28, .if_icmp .ge 102, []), 
  none, none, some (1, .aload_n 0, .aload_n 0, []), some (1, .iload_n 2, .iload_n 2, []), some (3, .invokevirtual 113, .invokevirtual 94, [890, 892, 28]), 
  none, none, some (3, .ifCond .eq 14, .ifCond .eq 96, []), none, none, some (1, .aload_n 0, .aload_n 0, []), some (3, .getfield 60, .getfield 403, [766]), 
  none, none, some (1, .iload_n 2, .iload_n 2, []), some (1, .iaload, .iaload, []), some (3, .ifCond .le 5, .ifCond .le 96, []), none, none, some (1, .iload_n 1, .iload_n 1, []), 
  some (1, .ireturn, .ireturn, []), some (3, .iinc 2 1, .iinc 2 1, []), none, none, some (3, .goto (-30), .goto 69, []), none, none, some (1, .aload_n 0, .aload_n 0, []), 
  some (3, .invokevirtual 178, .invokevirtual 108, [945, 947, 41]), none, none, some (1, .iconst 1, .iconst 1, []), some (1, .ireturn, .ireturn, [])])
def mj_Mo_remove : mv_J := (⟨"PlugTreeModel", "remove", "(II)V"⟩, prog_8_method_12_code, 4, none, [], [], 3, 6, [
  some (1, .aload_n 0, .aload_n 0, []), some (3, .getfield 48, .getfield 399, [762]), none, none, some (1, .iload_n 1, .iload_n 1, []), some (1, .iload_n 2, .iload_n 2, []), 
  some (1, .iastore, .iastore, []), some (1, .aload_n 0, .aload_n 0, []), some (3, .getfield 60, .getfield 403, [766]), none, none, some (1, .iload_n 1, .iload_n 1, []), 
  some (1, .iconst 0, .iconst 0, []), some (1, .iastore, .iastore, []), some (1, .iconst 0, .iconst 0, []), some (1, .istore_n 3, .istore_n 3, []), some (1, .iload_n 3, .iload_n 3, []), 
  some (1, .iconst 3, .iconst 3, []), some (3, .if_icmp .ge 20, .if_icmp .ge 38, []), none, none, some (1, .aload_n 0, .aload_n 0, []), some (3, .getfield 54, .getfield 401, [764]), 
  none, none, some (1, .iconst 3, .iconst 3, []), some (1, .iload_n 1, .iload_n 1, []), some (1, .imul, .imul, []), some (1, .iload_n 3, .iload_n 3, []), 
  some (1, .iadd, .iadd, []), some (1, .iconst (-1), .iconst (-1), []), some (1, .iastore, .iastore, []), some (3, .iinc 3 1, .iinc 3 1, []), none, none, 
  some (3, .goto (-19), .goto 16, []), none, none, some (1, .iconst 0, .iconst 0, []), some (1, .istore_n 3, .istore_n 3, []), some (1, .iload_n 3, .iload_n 3, []), 
  some (2, .bipush 32, .bipush 32, []), none, some (3, .if_icmp .ge 38, .if_icmp .ge 81, []), none, none, some (1, .aload_n 0, .aload_n 0, []), some (3, .getfield 13, .getfield 386, [749]), 
  none, none, some (1, .iload_n 3, .iload_n 3, []), some (1, .aload_n 0, .aload_n 0, []), some (3, .getfield 13, .getfield 386, [749]), none, none, some (1, .iload_n 3, .iload_n 3, []), 
  some (1, .iaload, .iaload, []), some (2, .bipush 100, .bipush 100, []), none, some (1, .iload_n 1, .iload_n 1, []), some (1, .iadd, .iadd, []), some (3, .if_icmp .ne 7, .if_icmp .ne 68, []), 
  none, none, some (1, .iconst (-1), .iconst (-1), []), some (3, .goto 9, .goto 74, []), none, none, some (1, .aload_n 0, .aload_n 0, []), some (3, .getfield 13, .getfield 386, [749]), 
  none, none, some (1, .iload_n 3, .iload_n 3, []), some (1, .iaload, .iaload, []), some (1, .iastore, .iastore, []), some (3, .iinc 3 1, .iinc 3 1, []), 
  none, none, some (3, .goto (-38), .goto 40, []), none, none, some (1, .aload_n 0, .aload_n 0, []), some (1, .aload_n 0, .aload_n 0, []), some (3, .getfield 66, .getfield 405, [768]), 
  none, none, some (1, .iload_n 1, .iload_n 1, []), some (3, .if_icmp .ne 7, .if_icmp .ne 94, []), none, none, some (1, .iconst (-1), .iconst (-1), []), 
  some (3, .goto 7, .goto 98, []), none, none, some (1, .aload_n 0, .aload_n 0, []), some (3, .getfield 66, .getfield 405, [768]), none, none, some (3, .putfield 66, .putfield 405, [768]), 
  none, none, some (1, .return_, .return_, [])])
def mj_Mo_check : mv_J := (⟨"PlugTreeModel", "check", "()V"⟩, prog_8_method_28_code, 4, none, [], [], 1, 6, [
  some (1, .iconst 1, .iconst 1, []), some (1, .istore_n 1, .istore_n 1, []), some (1, .aload_n 0, .aload_n 0, []), some (3, .getfield 45, .getfield 398, [761]), 
  none, none, some (1, .aload_n 0, .aload_n 0, []), some (3, .getfield 66, .getfield 405, [768]), none, none, some (1, .iaload, .iaload, []), some (1, .istore_n 2, .istore_n 2, []), 
  some (1, .iload_n 2, .iload_n 2, []), some (3, .ifCond .lt 52, .ifCond .lt 65, []), none, none, some (1, .iload_n 1, .iload_n 1, []), some (3, .ifCond .eq 36, .ifCond .eq 53, []), 
  none, none, some (1, .aload_n 0, .aload_n 0, []), some (1, .iload_n 2, .iload_n 2, []), some (3, .invokevirtual 164, .invokevirtual 93, [886, 888, 27]), 
  none, none, some (1, .aload_n 0, .aload_n 0, []), some (3, .getfield 35, .getfield 394, [757]), none, none, some (1, .aload_n 0, .aload_n 0, []), some (3, .getfield 42, .getfield 397, [760]), 
  none, none, some (1, .aload_n 0, .aload_n 0, []), some (3, .getfield 66, .getfield 405, [768]), none, none, some (1, .iaload, .iaload, []), some (1, .iaload, .iaload, []), 
  some (1, .iadd, .iadd, []), some (1, .aload_n 0, .aload_n 0, []), some (3, .getfield 20, .getfield 388, [751]), none, none, some (1, .iload_n 2, .iload_n 2, []), 
  some (1, .iaload, .iaload, []), some (3, .if_icmp .gt 7, .if_icmp .gt 53, []), none, none, some (1, .iconst 1, .iconst 1, []), some (3, .goto 4, .goto 54, []), 
  none, none, some (1, .iconst 0, .iconst 0, []), some (1, .istore_n 1, .istore_n 1, []), some (1, .aload_n 0, .aload_n 0, []), some (3, .getfield 17, .getfield 387, [750]), 
  none, none, some (1, .iload_n 2, .iload_n 2, []), some (1, .iaload, .iaload, []), some (1, .istore_n 2, .istore_n 2, []), some (3, .goto (-50), .goto 12, []), 
  none, none, some (1, .iconst 0, .iconst 0, []), some (1, .istore_n 2, .istore_n 2, []), some (1, .iconst 0, .iconst 0, []), some (1, .istore_n 3, .istore_n 3, []), 
  some (1, .iload_n 3, .iload_n 3, []), some (1, .aload_n 0, .aload_n 0, []), some (3, .getfield 91, .getfield 396, [759]), none, none, some (3, .if_icmp .ge 41, .if_icmp .ge 115, []), 
  none, none, some (1, .iload_n 2, .iload_n 2, []), some (3, .ifCond .ne 25, .ifCond .ne 103, []), none, none, some (1, .aload_n 0, .aload_n 0, []), some (1, .iload_n 3, .iload_n 3, []), 
  some (3, .invokevirtual 113, .invokevirtual 94, [890, 892, 28]), none, none, some (3, .ifCond .eq 21, .ifCond .eq 107, []), none, none, some (1, .aload_n 0, .aload_n 0, []), 
  some (3, .getfield 38, .getfield 395, [758]), none, none, some (1, .aload_n 0, .aload_n 0, []), some (3, .getfield 42, .getfield 397, [760]), none, none, 
  some (1, .iload_n 3, .iload_n 3, []), some (1, .iaload, .iaload, []), some (1, .baload, .baload, []), some (3, .ifCond .ne 7, .ifCond .ne 107, []), none, 
  none, some (1, .iconst 1, .iconst 1, []), some (3, .goto 4, .goto 108, []), none, none, some (1, .iconst 0, .iconst 0, []), some (1, .istore_n 2, .istore_n 2, []), 
  some (3, .iinc 3 1, .iinc 3 1, []), none, none, some (3, .goto (-43), .goto 69, []), none, none, some (1, .aload_n 0, .aload_n 0, []), some (3, .getfield 45, .getfield 398, [761]), 
  none, none, some (1, .aload_n 0, .aload_n 0, []), some (3, .getfield 66, .getfield 405, [768]), none, none, some (1, .iaload, .iaload, []), some (1, .istore_n 3, .istore_n 3, []), 
  some (1, .iload_n 1, .iload_n 1, []), some (3, .ifCond .ne 11, .ifCond .ne 137, []), none, none, some (1, .aload_n 0, .aload_n 0, []), some (1, .iconst 1, .iconst 1, []), 
  some (3, .invokevirtual 167, .invokevirtual 96, [898, 900, 30]), none, none, some (3, .goto 93, .goto 227, []), none, none, some (1, .aload_n 0, .aload_n 0, []), 
  some (1, .aload_n 0, .aload_n 0, []), some (3, .getfield 23, .getfield 389, [752]), none, none, some (1, .iload_n 3, .iload_n 3, []), some (1, .iaload, .iaload, []), 
  some (1, .aload_n 0, .aload_n 0, []), some (3, .getfield 26, .getfield 390, [753]), none, none, some (1, .iload_n 3, .iload_n 3, []), some (1, .iaload, .iaload, []), 
  some (3, .invokevirtual 139, .invokevirtual 97, [902, 904, 31]), none, none, some (3, .ifCond .ne 10, .ifCond .ne 163, []), none, none, some (1, .aload_n 0, .aload_n 0, []), 
  some (3, .invokevirtual 171, .invokevirtual 102, [921, 923, 35]), none, none, some (3, .ifCond .eq 21, .ifCond .eq 181, []), none, none, some (1, .aload_n 0, .aload_n 0, []), 
  some (3, .getfield 48, .getfield 399, [762]), none, none, some (1, .aload_n 0, .aload_n 0, []), some (3, .getfield 66, .getfield 405, [768]), none, none, 
  some (1, .iconst 1, .iconst 1, []), some (1, .iastore, .iastore, []), some (1, .aload_n 0, .aload_n 0, []), some (1, .iconst (-1), .iconst (-1), []), 
  some (3, .putfield 66, .putfield 405, [768]), none, none, some (3, .goto 49, .goto 227, []), none, none, some (1, .iload_n 2, .iload_n 2, []), some (3, .ifCond .eq 11, .ifCond .eq 193, []), 
  none, none, some (1, .aload_n 0, .aload_n 0, []), some (1, .iconst 2, .iconst 2, []), some (3, .invokevirtual 167, .invokevirtual 96, [898, 900, 30]), 
  none, none, some (3, .goto 37, .goto 227, []), none, none, some (1, .aload_n 0, .aload_n 0, []), some (3, .invokevirtual 148, .invokevirtual 105, [933, 935, 38]), 
  none, none, some (1, .aload_n 0, .aload_n 0, []), some (1, .iconst 0, .iconst 0, []), some (3, .invokevirtual 145, .invokevirtual 106, [937, 939, 39]), 
  none, none, some (3, .sipush 4096, .sipush 4096, []), none, none, some (3, .if_icmp .le 11, .if_icmp .le 216, []), none, none, some (1, .aload_n 0, .aload_n 0, []), 
  some (1, .iconst 3, .iconst 3, []), some (3, .invokevirtual 167, .invokevirtual 96, [898, 900, 30]), none, none, some (3, .goto 14, .goto 227, []), none, 
  none, some (1, .aload_n 0, .aload_n 0, []), some (1, .iconst 1, .iconst 1, []), some (3, .putfield 109, .putfield 406, [769]), none, none, some (1, .aload_n 0, .aload_n 0, []), 
  some (1, .iconst 1, .iconst 1, []), some (1, .iconst 2, .iconst 2, []), some (3, .invokevirtual 157, .invokevirtual 107, [941, 943, 40]), none, none, 
  some (1, .return_, .return_, [])])
def mj_Mo_powerOf : mv_J := (⟨"PlugTreeModel", "powerOf", "(I)I"⟩, prog_8_method_15_code, 4, some .int, [], [], 2, 6, [
  some (1, .iconst 0, .iconst 0, []), some (1, .istore_n 2, .istore_n 2, []), some (1, .iconst 0, .iconst 0, []), some (1, .istore_n 3, .istore_n 3, []), 
  some (1, .iload_n 3, .iload_n 3, []), some (1, .aload_n 0, .aload_n 0, []), some (3, .getfield 91, .getfield 396, [759]), none, none, some (3, .if_icmp .ge 44, .if_icmp .ge 53, []), 
  none, none, some (1, .aload_n 0, .aload_n 0, []), some (1, .iload_n 3, .iload_n 3, []), some (3, .invokevirtual 113, .invokevirtual 94, [890, 892, 28]), 
  none, none, some (3, .ifCond .eq 28, .ifCond .eq 45, []), none, none, some (1, .aload_n 0, .aload_n 0, []), some (1, .iload_n 3, .iload_n 3, []), some (1, .iload_n 1, .iload_n 1, []), 
  some (3, .invokevirtual 116, .invokevirtual 95, [894, 896, 29]), none, none, some (3, .ifCond .eq 19, .ifCond .eq 45, []), none, none, some (1, .iload_n 2, .iload_n 2, []), 
  some (1, .aload_n 0, .aload_n 0, []), some (3, .getfield 35, .getfield 394, [757]), none, none, some (1, .aload_n 0, .aload_n 0, []), some (3, .getfield 42, .getfield 397, [760]), 
  none, none, some (1, .iload_n 3, .iload_n 3, []), some (1, .iaload, .iaload, []), some (1, .iaload, .iaload, []), some (1, .iadd, .iadd, []), some (3, .goto 4, .goto 46, []), 
  none, none, some (1, .iload_n 2, .iload_n 2, []), some (1, .istore_n 2, .istore_n 2, []), some (3, .iinc 3 1, .iinc 3 1, []), none, none, some (3, .goto (-46), .goto 4, []), 
  none, none, some (1, .iload_n 2, .iload_n 2, []), some (1, .ireturn, .ireturn, [])])
def mj_Mo_isThere : mv_J := (⟨"PlugTreeModel", "isThere", "(I)Z"⟩, prog_8_method_10_code, 2, some .boolean, [], [], 2, 6, [
  some (1, .aload_n 0, .aload_n 0, []), some (3, .getfield 48, .getfield 399, [762]), none, none, some (1, .iload_n 1, .iload_n 1, []), some (1, .iaload, .iaload, []), 
  some (1, .iconst 1, .iconst 1, []), some (3, .if_icmp .eq 23, .if_icmp .eq 30, []), none, none, some (1, .aload_n 0, .aload_n 0, []), some (3, .getfield 48, .getfield 399, [762]), 
  none, none, some (1, .iload_n 1, .iload_n 1, []), some (1, .iaload, .iaload, []), some (1, .iconst 2, .iconst 2, []), some (3, .if_icmp .eq 13, .if_icmp .eq 30, []), 
  none, none, some (1, .aload_n 0, .aload_n 0, []), some (3, .getfield 48, .getfield 399, [762]), none, none, some (1, .iload_n 1, .iload_n 1, []), some (1, .iaload, .iaload, []), 
  some (1, .iconst 3, .iconst 3, []), some (3, .if_icmp .ne 7, .if_icmp .ne 34, []), none, none, some (1, .iconst 1, .iconst 1, []), some (3, .goto 4, .goto 35, []), 
  none, none, some (1, .iconst 0, .iconst 0, []), some (1, .ireturn, .ireturn, [])])
def mj_Mo_hangsUnder : mv_J := (⟨"PlugTreeModel", "hangsUnder", "(II)Z"⟩, prog_8_method_14_code, 4, some .boolean, [], [], 3, 6, [
  some (1, .aload_n 0, .aload_n 0, []), some (3, .getfield 45, .getfield 398, [761]), none, none, some (1, .iload_n 1, .iload_n 1, []), some (1, .iaload, .iaload, []), 
  some (1, .istore_n 3, .istore_n 3, []), some (1, .iload_n 3, .iload_n 3, []), some (3, .ifCond .lt 18, .ifCond .lt 26, []), none, none, some (1, .iload_n 3, .iload_n 3, []), 
  some (1, .iload_n 2, .iload_n 2, []), some (3, .if_icmp .eq 13, .if_icmp .eq 26, []), none, none, some (1, .aload_n 0, .aload_n 0, []), some (3, .getfield 17, .getfield 387, [750]), 
  none, none, some (1, .iload_n 3, .iload_n 3, []), some (1, .iaload, .iaload, []), some (1, .istore_n 3, .istore_n 3, []), some (3, .goto (-16), .goto 7, []), 
  none, none, some (1, .iload_n 3, .iload_n 3, []), some (3, .ifCond .lt 7, .ifCond .lt 34, []), none, none, some (1, .iconst 1, .iconst 1, []), some (3, .goto 4, .goto 35, []), 
  none, none, some (1, .iconst 0, .iconst 0, []), some (1, .ireturn, .ireturn, [])])
def mj_Mo_refuse : mv_J := (⟨"PlugTreeModel", "refuse", "(I)V"⟩, prog_8_method_27_code, 2, none, [], [], 2, 6, [
  some (1, .aload_n 0, .aload_n 0, []), some (3, .getfield 51, .getfield 400, [763]), none, none, some (1, .aload_n 0, .aload_n 0, []), some (3, .getfield 66, .getfield 405, [768]), 
  none, none, some (1, .iload_n 1, .iload_n 1, []), some (1, .iastore, .iastore, []), some (1, .aload_n 0, .aload_n 0, []), some (1, .aload_n 0, .aload_n 0, []), 
  some (3, .getfield 66, .getfield 405, [768]), none, none, some (1, .iconst 5, .iconst 5, []), some (3, .invokevirtual 161, .invokevirtual 91, [878, 880, 25]), 
  none, none, some (1, .return_, .return_, [])])
def mj_Mo_fits : mv_J := (⟨"PlugTreeModel", "fits", "(II)Z"⟩, prog_8_method_19_code, 7, some .boolean, [], [], 3, 6, [
  some (1, .aload_n 0, .aload_n 0, []), some (3, .getfield 66, .getfield 405, [768]), none, none, some (1, .istore_n 3, .istore_n 3, []), some (1, .aload_n 0, .aload_n 0, []), 
  some (1, .aload_n 0, .aload_n 0, []), some (3, .getfield 45, .getfield 398, [761]), none, none, some (1, .iload_n 3, .iload_n 3, []), some (1, .iaload, .iaload, []), 
  some (1, .iload_n 1, .iload_n 1, []), some (1, .iload_n 2, .iload_n 2, []), some (2, .bipush 100, .bipush 100, []), none, some (1, .iload_n 3, .iload_n 3, []), 
  some (1, .iadd, .iadd, []), some (1, .aload_n 0, .aload_n 0, []), some (3, .getfield 82, .getfield 413, [776]), none, none, some (3, .invokevirtual 128, .invokevirtual 98, [906, 908, 32]), 
  none, none, some (3, .sipush 1024, .sipush 1024, []), none, none, some (2, .istore 4, .istore 4, []), none, some (2, .iload 4, .iload 4, []), none, some (3, .ifCond .le 83, .ifCond .le 115, []), 
  none, none, some (1, .iconst 0, .iconst 0, []), some (2, .istore 5, .istore 5, []), none, some (2, .iload 5, .iload 5, []), none, some (1, .iconst 3, .iconst 3, []), 
  some (3, .if_icmp .ge 65, .if_icmp .ge 106, []), none, none, some (1, .aload_n 0, .aload_n 0, []), some (1, .iload_n 3, .iload_n 3, []), some (2, .iload 5, .iload 5, []), 
  none, some (3, .invokevirtual 124, .invokevirtual 100, [913, 915, 33]), none, none, some (2, .iload 4, .iload 4, []), none, some (3, .if_icmp .ne 47, .if_icmp .ne 100, []), 
  none, none, some (1, .aload_n 0, .aload_n 0, []), some (2, .iload 4, .iload 4, []), none, some (1, .iload_n 1, .iload_n 1, []), some (1, .iload_n 2, .iload_n 2, []), 
  some (3, .invokevirtual 132, .invokevirtual 101, [917, 919, 34]), none, none, some (2, .istore 6, .istore 6, []), none, some (2, .iload 6, .iload 6, []), 
  none, some (3, .ifCond .ge 5, .ifCond .ge 73, []), none, none, some (1, .iconst 0, .iconst 0, []), some (1, .ireturn, .ireturn, []), some (1, .aload_n 0, .aload_n 0, []), 
  some (3, .getfield 57, .getfield 402, [765]), none, none, some (1, .iconst 3, .iconst 3, []), some (1, .iload_n 3, .iload_n 3, []), some (1, .imul, .imul, []), 
  some (2, .iload 5, .iload 5, []), none, some (1, .iadd, .iadd, []), some (2, .iload 6, .iload 6, []), none, some (1, .iastore, .iastore, []), some (1, .aload_n 0, .aload_n 0, []), 
  some (3, .getfield 82, .getfield 413, [776]), none, none, some (2, .iload 6, .iload 6, []), none, some (2, .iload 6, .iload 6, []), none, some (2, .iload 4, .iload 4, []), 
  none, some (1, .iadd, .iadd, []), some (3, .invokestatic 120, .invokestatic 99, [910, 911]), none, none, some (3, .iinc 5 1, .iinc 5 1, []), none, none, 
  some (3, .goto (-65), .goto 38, []), none, none, some (2, .iload 4, .iload 4, []), none, some (1, .iconst 2, .iconst 2, []), some (1, .idiv, .idiv, []), 
  some (2, .istore 4, .istore 4, []), none, some (3, .goto (-82), .goto 30, []), none, none, some (1, .iconst 0, .iconst 0, []), some (2, .istore 4, .istore 4, []), 
  none, some (2, .iload 4, .iload 4, []), none, some (1, .iconst 3, .iconst 3, []), some (3, .if_icmp .ge 45, .if_icmp .ge 166, []), none, none, some (1, .aload_n 0, .aload_n 0, []), 
  some (3, .getfield 54, .getfield 401, [764]), none, none, some (1, .iconst 3, .iconst 3, []), some (1, .iload_n 3, .iload_n 3, []), some (1, .imul, .imul, []), 
  some (2, .iload 4, .iload 4, []), none, some (1, .iadd, .iadd, []), some (1, .aload_n 0, .aload_n 0, []), some (1, .iload_n 3, .iload_n 3, []), some (2, .iload 4, .iload 4, []), 
  none, some (3, .invokevirtual 124, .invokevirtual 100, [913, 915, 33]), none, none, some (3, .ifCond .le 17, .ifCond .le 158, []), none, none, some (1, .aload_n 0, .aload_n 0, []), 
  some (3, .getfield 57, .getfield 402, [765]), none, none, some (1, .iconst 3, .iconst 3, []), some (1, .iload_n 3, .iload_n 3, []), some (1, .imul, .imul, []), 
  some (2, .iload 4, .iload 4, []), none, some (1, .iadd, .iadd, []), some (1, .iaload, .iaload, []), some (3, .goto 4, .goto 159, []), none, none, some (1, .iconst (-1), .iconst (-1), []), 
  some (1, .iastore, .iastore, []), some (3, .iinc 4 1, .iinc 4 1, []), none, none, some (3, .goto (-45), .goto 118, []), none, none, some (1, .aload_n 0, .aload_n 0, []), 
  some (3, .getfield 23, .getfield 389, [752]), none, none, some (1, .aload_n 0, .aload_n 0, []), some (3, .getfield 45, .getfield 398, [761]), none, none, 
  some (1, .iload_n 3, .iload_n 3, []), some (1, .iaload, .iaload, []), some (1, .iload_n 1, .iload_n 1, []), some (1, .iastore, .iastore, []), some (1, .aload_n 0, .aload_n 0, []), 
  some (3, .getfield 26, .getfield 390, [753]), none, none, some (1, .aload_n 0, .aload_n 0, []), some (3, .getfield 45, .getfield 398, [761]), none, none, 
  some (1, .iload_n 3, .iload_n 3, []), some (1, .iaload, .iaload, []), some (1, .iload_n 2, .iload_n 2, []), some (1, .iastore, .iastore, []), some (1, .iconst 1, .iconst 1, []), 
  some (1, .ireturn, .ireturn, [])])
def mj_Mo_lookAt : mv_J := (⟨"PlugTreeModel", "lookAt", "(IIII[Z)V"⟩, prog_8_method_17_code, 10, none, [], [], 6, 6, [
  some (1, .iload_n 2, .iload_n 2, []), some (2, .istore 6, .istore 6, []), none, some (2, .iload 6, .iload 6, []), none, some (1, .iload_n 3, .iload_n 3, []), 
  some (3, .if_icmp .ge 15, .if_icmp .ge 21, []), none, none, some (2, .aload 5, .aload 5, []), none, some (2, .iload 6, .iload 6, []), none, some (1, .iconst 0, .iconst 0, []), 
  some (1, .bastore, .bastore, []), some (3, .iinc 6 1, .iinc 6 1, []), none, none, some (3, .goto (-15), .goto 3, []), none, none, some (1, .iconst 4, .iconst 4, []), 
  some (1, .iload_n 1, .iload_n 1, []), some (1, .imul, .imul, []), some (2, .istore 6, .istore 6, []), none, some (2, .iload 6, .iload 6, []), none, some (1, .iconst 4, .iconst 4, []), 
  some (1, .iload_n 1, .iload_n 1, []), some (1, .imul, .imul, []), some (1, .iconst 4, .iconst 4, []), some (1, .iadd, .iadd, []), some (3, .if_icmp .ge 138, .if_icmp .ge 171, []), 
  none, none, some (1, .aload_n 0, .aload_n 0, []), some (3, .getfield 13, .getfield 386, [749]), none, none, some (2, .iload 6, .iload 6, []), none, some (1, .iaload, .iaload, []), 
  some (2, .istore 7, .istore 7, []), none, some (2, .iload 7, .iload 7, []), none, some (2, .iload 4, .iload 4, []), none, some (3, .if_icmp .eq 116, .if_icmp .eq 165, []), 
  none, none, some (2, .iload 7, .iload 7, []), none, some (1, .iconst (-1), .iconst (-1), []), some (3, .if_icmp .ne 6, .if_icmp .ne 61, []), none, none, 
  some (3, .goto 107, .goto 165, []), none, none, some (2, .iload 7, .iload 7, []), none, some (2, .bipush 100, .bipush 100, []), none, some (3, .if_icmp .ge 22, .if_icmp .ge 87, []), 
  none, none, some (2, .aload 5, .aload 5, []), none, some (1, .aload_n 0, .aload_n 0, []), some (3, .getfield 23, .getfield 389, [752]), none, none, some (2, .iload 7, .iload 7, []), 
  none, some (1, .iaload, .iaload, []), some (1, .aload_n 0, .aload_n 0, []), some (3, .getfield 26, .getfield 390, [753]), none, none, some (2, .iload 7, .iload 7, []), 
  none, some (1, .iaload, .iaload, []), some (3, .invokestatic 120, .invokestatic 99, [910, 911]), none, none, some (1, .iconst 0, .iconst 0, []), some (2, .istore 8, .istore 8, []), 
  none, some (2, .iload 8, .iload 8, []), none, some (1, .iconst 3, .iconst 3, []), some (3, .if_icmp .ge 72, .if_icmp .ge 165, []), none, none, some (2, .iload 7, .iload 7, []), 
  none, some (2, .bipush 100, .bipush 100, []), none, some (3, .if_icmp .lt 65, .if_icmp .lt 165, []), none, none, some (1, .aload_n 0, .aload_n 0, []), 
  some (3, .getfield 54, .getfield 401, [764]), none, none, some (1, .iconst 3, .iconst 3, []), some (2, .iload 7, .iload 7, []), none, some (2, .bipush 100, .bipush 100, []), 
  none, some (1, .isub, .isub, []), some (1, .imul, .imul, []), some (2, .iload 8, .iload 8, []), none, some (1, .iadd, .iadd, []), some (1, .iaload, .iaload, []), 
  some (2, .istore 9, .istore 9, []), none, some (2, .aload 5, .aload 5, []), none, some (2, .iload 9, .iload 9, []), none, some (3, .ifCond .ge 7, .ifCond .ge 131, []), 
  none, none, some (1, .iconst 0, .iconst 0, []), some (3, .goto 5, .goto 133, []), none, none, some (2, .iload 9, .iload 9, []), none, some (2, .iload 9, .iload 9, []), 
  none, some (3, .ifCond .ge 7, .ifCond .ge 142, []), none, none, some (1, .iconst 0, .iconst 0, []), some (3, .goto 17, .goto 156, []), none, none, some (2, .iload 9, .iload 9, []), 
  none, some (1, .aload_n 0, .aload_n 0, []), some (2, .iload 7, .iload 7, []), none, some (2, .bipush 100, .bipush 100, []), none, some (1, .isub, .isub, []), 
  some (2, .iload 8, .iload 8, []), none, some (3, .invokevirtual 124, .invokevirtual 100, [913, 915, 33]), none, none, some (1, .iadd, .iadd, []), some (3, .invokestatic 120, .invokestatic 99, [910, 911]), 
  none, none, some (3, .iinc 8 1, .iinc 8 1, []), none, none, some (3, .goto (-72), .goto 90, []), none, none, some (3, .iinc 6 1, .iinc 6 1, []), none, 
  none, some (3, .goto (-142), .goto 26, []), none, none, some (1, .return_, .return_, [])])
def mj_Mo_mark : mv_J := (⟨"PlugTreeModel", "mark", "([ZII)V"⟩, prog_8_method_16_code, 4, none, [], [], 3, 6, [
  some (1, .iload_n 1, .iload_n 1, []), some (1, .istore_n 3, .istore_n 3, []), some (1, .iload_n 3, .iload_n 3, []), some (1, .iload_n 2, .iload_n 2, []), 
  some (3, .if_icmp .ge 13, .if_icmp .ge 17, []), none, none, some (1, .aload_n 0, .aload_n 0, []), some (1, .iload_n 3, .iload_n 3, []), some (1, .iconst 1, .iconst 1, []), 
  some (1, .bastore, .bastore, []), some (3, .iinc 3 1, .iinc 3 1, []), none, none, some (3, .goto (-12), .goto 2, []), none, none, some (1, .return_, .return_, [])
  ])
def mj_Mo_sizeOf : mv_J := (⟨"PlugTreeModel", "sizeOf", "(II)I"⟩, prog_8_method_11_code, 3, some .int, [], [], 3, 6, [
  some (1, .aload_n 0, .aload_n 0, []), some (3, .getfield 32, .getfield 393, [756]), none, none, some (1, .iconst 3, .iconst 3, []), some (1, .aload_n 0, .aload_n 0, []), 
  some (3, .getfield 42, .getfield 397, [760]), none, none, some (1, .iload_n 1, .iload_n 1, []), some (1, .iaload, .iaload, []), some (1, .imul, .imul, []), 
  some (1, .iload_n 2, .iload_n 2, []), some (1, .iadd, .iadd, []), some (1, .iaload, .iaload, []), some (1, .ireturn, .ireturn, [])])
def mj_Mo_placeFor : mv_J := (⟨"PlugTreeModel", "placeFor", "(III)I"⟩, prog_8_method_18_code, 9, some .int, [], [], 4, 6, [
  some (1, .iconst (-1), .iconst (-1), []), some (2, .istore 4, .istore 4, []), none, some (3, .sipush 9999, .sipush 9999, []), none, none, some (2, .istore 5, .istore 5, []), 
  none, some (1, .iload_n 2, .iload_n 2, []), some (2, .istore 6, .istore 6, []), none, some (2, .iload 6, .iload 6, []), none, some (1, .iload_n 3, .iload_n 3, []), 
  some (3, .if_icmp .ge 85, .if_icmp .ge 99, []), none, none, some (2, .iload 6, .iload 6, []), none, some (2, .istore 7, .istore 7, []), none, some (2, .iload 7, .iload 7, []), 
  none, some (1, .iload_n 3, .iload_n 3, []), some (3, .if_icmp .ge 19, .if_icmp .ge 43, []), none, none, some (1, .aload_n 0, .aload_n 0, []), some (3, .getfield 82, .getfield 413, [776]), 
  none, none, some (2, .iload 7, .iload 7, []), none, some (1, .baload, .baload, []), some (3, .ifCond .ne 9, .ifCond .ne 43, []), none, none, some (3, .iinc 7 1, .iinc 7 1, []), 
  none, none, some (3, .goto (-19), .goto 21, []), none, none, some (2, .iload 6, .iload 6, []), none, some (2, .istore 8, .istore 8, []), none, some (2, .iload 8, .iload 8, []), 
  none, some (1, .iload_n 1, .iload_n 1, []), some (1, .irem, .irem, []), some (3, .ifCond .eq 9, .ifCond .eq 60, []), none, none, some (3, .iinc 8 1, .iinc 8 1, []), 
  none, none, some (3, .goto (-10), .goto 47, []), none, none, some (2, .iload 8, .iload 8, []), none, some (1, .iload_n 1, .iload_n 1, []), some (1, .iadd, .iadd, []), 
  some (2, .iload 7, .iload 7, []), none, some (3, .if_icmp .gt 24, .if_icmp .gt 90, []), none, none, some (2, .iload 7, .iload 7, []), none, some (2, .iload 6, .iload 6, []), 
  none, some (1, .isub, .isub, []), some (2, .iload 5, .iload 5, []), none, some (3, .if_icmp .ge 14, .if_icmp .ge 90, []), none, none, some (2, .iload 8, .iload 8, []), 
  none, some (2, .istore 4, .istore 4, []), none, some (2, .iload 7, .iload 7, []), none, some (2, .iload 6, .iload 6, []), none, some (1, .isub, .isub, []), 
  some (2, .istore 5, .istore 5, []), none, some (2, .iload 7, .iload 7, []), none, some (1, .iconst 1, .iconst 1, []), some (1, .iadd, .iadd, []), some (2, .istore 6, .istore 6, []), 
  none, some (3, .goto (-85), .goto 11, []), none, none, some (2, .iload 4, .iload 4, []), none, some (1, .ireturn, .ireturn, [])])
def mj_Mo_grows : mv_J := (⟨"PlugTreeModel", "grows", "()Z"⟩, prog_8_method_22_code, 4, some .boolean, [], [], 1, 6, [
  some (1, .aload_n 0, .aload_n 0, []), some (3, .getfield 45, .getfield 398, [761]), none, none, some (1, .aload_n 0, .aload_n 0, []), some (3, .getfield 66, .getfield 405, [768]), 
  none, none, some (1, .iaload, .iaload, []), some (1, .istore_n 1, .istore_n 1, []), some (1, .aload_n 0, .aload_n 0, []), some (3, .getfield 17, .getfield 387, [750]), 
  none, none, some (1, .iload_n 1, .iload_n 1, []), some (1, .iaload, .iaload, []), some (3, .ifCond .ge 5, .ifCond .ge 21, []), none, none, some (1, .iconst 0, .iconst 0, []), 
  some (1, .ireturn, .ireturn, []), some (1, .aload_n 0, .aload_n 0, []), some (3, .getfield 17, .getfield 387, [750]), none, none, some (1, .iload_n 1, .iload_n 1, []), 
  some (1, .iaload, .iaload, []), some (1, .istore_n 2, .istore_n 2, []), some (1, .aload_n 0, .aload_n 0, []), some (1, .iload_n 2, .iload_n 2, []), some (1, .aload_n 0, .aload_n 0, []), 
  some (3, .getfield 23, .getfield 389, [752]), none, none, some (1, .iload_n 2, .iload_n 2, []), some (1, .iaload, .iaload, []), some (1, .aload_n 0, .aload_n 0, []), 
  some (3, .getfield 26, .getfield 390, [753]), none, none, some (1, .iload_n 2, .iload_n 2, []), some (1, .iaload, .iaload, []), some (1, .iload_n 1, .iload_n 1, []), 
  some (1, .aload_n 0, .aload_n 0, []), some (3, .getfield 85, .getfield 414, [777]), none, none, some (3, .invokevirtual 128, .invokevirtual 98, [906, 908, 32]), 
  none, none, some (1, .aload_n 0, .aload_n 0, []), some (3, .getfield 26, .getfield 390, [753]), none, none, some (1, .iload_n 1, .iload_n 1, []), some (1, .iaload, .iaload, []), 
  some (1, .aload_n 0, .aload_n 0, []), some (3, .getfield 23, .getfield 389, [752]), none, none, some (1, .iload_n 1, .iload_n 1, []), some (1, .iaload, .iaload, []), 
  some (3, .if_icmp .le 20, .if_icmp .le 82, []), none, none, some (1, .aload_n 0, .aload_n 0, []), some (1, .aload_n 0, .aload_n 0, []), some (3, .getfield 23, .getfield 389, [752]), 
  none, none, some (1, .iload_n 1, .iload_n 1, []), some (1, .iaload, .iaload, []), some (1, .aload_n 0, .aload_n 0, []), some (3, .getfield 26, .getfield 390, [753]), 
  none, none, some (1, .iload_n 1, .iload_n 1, []), some (1, .iaload, .iaload, []), some (3, .invokevirtual 142, .invokevirtual 103, [925, 927, 36]), none, 
  none, some (1, .ireturn, .ireturn, []), some (1, .aload_n 0, .aload_n 0, []), some (3, .getfield 23, .getfield 389, [752]), none, none, some (1, .iload_n 2, .iload_n 2, []), 
  some (1, .iaload, .iaload, []), some (1, .istore_n 3, .istore_n 3, []), some (1, .iload_n 3, .iload_n 3, []), some (1, .aload_n 0, .aload_n 0, []), some (3, .getfield 26, .getfield 390, [753]), 
  none, none, some (1, .iload_n 2, .iload_n 2, []), some (1, .iaload, .iaload, []), some (3, .if_icmp .ge 22, .if_icmp .ge 118, []), none, none, some (1, .aload_n 0, .aload_n 0, []), 
  some (1, .iload_n 3, .iload_n 3, []), some (1, .iload_n 3, .iload_n 3, []), some (3, .invokevirtual 142, .invokevirtual 103, [925, 927, 36]), none, none, 
  some (3, .ifCond .eq 5, .ifCond .eq 110, []), none, none, some (1, .iconst 1, .iconst 1, []), some (1, .ireturn, .ireturn, []), some (1, .iload_n 3, .iload_n 3, []), 
  some (2, .bipush 64, .bipush 64, []), none, some (1, .iadd, .iadd, []), some (1, .istore_n 3, .istore_n 3, []), some (3, .goto (-26), .goto 89, []), 
  none, none, some (1, .iconst 0, .iconst 0, []), some (1, .ireturn, .ireturn, [])])
def mj_Mo_growsFrom : mv_J := (⟨"PlugTreeModel", "growsFrom", "(II)Z"⟩, prog_8_method_21_code, 4, some .boolean, [], [], 3, 6, [
  some (1, .iload_n 2, .iload_n 2, []), some (1, .istore_n 3, .istore_n 3, []), some (1, .aload_n 0, .aload_n 0, []), some (1, .iload_n 3, .iload_n 3, []), 
  some (1, .iload_n 3, .iload_n 3, []), some (2, .bipush 64, .bipush 64, []), none, some (1, .iadd, .iadd, []), some (1, .aload_n 0, .aload_n 0, []), some (3, .getfield 26, .getfield 390, [753]), 
  none, none, some (1, .aload_n 0, .aload_n 0, []), some (3, .getfield 17, .getfield 387, [750]), none, none, some (1, .aload_n 0, .aload_n 0, []), some (3, .getfield 45, .getfield 398, [761]), 
  none, none, some (1, .aload_n 0, .aload_n 0, []), some (3, .getfield 66, .getfield 405, [768]), none, none, some (1, .iaload, .iaload, []), some (1, .iaload, .iaload, []), 
  some (1, .iaload, .iaload, []), some (3, .invokevirtual 136, .invokevirtual 104, [929, 931, 37]), none, none, some (3, .ifCond .eq 19, .ifCond .eq 49, []), 
  none, none, some (1, .iload_n 3, .iload_n 3, []), some (2, .bipush 64, .bipush 64, []), none, some (1, .iadd, .iadd, []), some (1, .istore_n 3, .istore_n 3, []), 
  some (1, .aload_n 0, .aload_n 0, []), some (1, .iload_n 1, .iload_n 1, []), some (1, .iload_n 3, .iload_n 3, []), some (3, .invokevirtual 139, .invokevirtual 97, [902, 904, 31]), 
  none, none, some (3, .ifCond .eq (-42), .ifCond .eq 2, []), none, none, some (1, .iconst 1, .iconst 1, []), some (1, .ireturn, .ireturn, []), some (1, .iconst 0, .iconst 0, []), 
  some (1, .ireturn, .ireturn, [])])
def mj_Mo_isFree : mv_J := (⟨"PlugTreeModel", "isFree", "(III)Z"⟩, prog_8_method_20_code, 6, some .boolean, [], [], 4, 6, [
  some (1, .iload_n 2, .iload_n 2, []), some (1, .iload_n 3, .iload_n 3, []), some (3, .if_icmp .gt 7, .if_icmp .gt 9, []), none, none, some (1, .iconst 1, .iconst 1, []), 
  some (3, .goto 4, .goto 10, []), none, none, some (1, .iconst 0, .iconst 0, []), some (2, .istore 4, .istore 4, []), none, some (1, .iload_n 1, .iload_n 1, []), 
  some (2, .istore 5, .istore 5, []), none, some (2, .iload 5, .iload 5, []), none, some (1, .iload_n 2, .iload_n 2, []), some (3, .if_icmp .ge 31, .if_icmp .ge 49, []), 
  none, none, some (2, .iload 4, .iload 4, []), none, some (3, .ifCond .eq 26, .ifCond .eq 49, []), none, none, some (1, .aload_n 0, .aload_n 0, []), some (3, .getfield 85, .getfield 414, [777]), 
  none, none, some (2, .iload 5, .iload 5, []), none, some (1, .baload, .baload, []), some (3, .ifCond .ne 7, .ifCond .ne 40, []), none, none, some (1, .iconst 1, .iconst 1, []), 
  some (3, .goto 4, .goto 41, []), none, none, some (1, .iconst 0, .iconst 0, []), some (2, .istore 4, .istore 4, []), none, some (3, .iinc 5 1, .iinc 5 1, []), 
  none, none, some (3, .goto (-31), .goto 15, []), none, none, some (2, .iload 4, .iload 4, []), none, some (1, .ireturn, .ireturn, [])])
def mj_Mo_measure : mv_J := (⟨"PlugTreeModel", "measure", "()V"⟩, prog_8_method_24_code, 3, none, [], [], 1, 6, [
  some (1, .aload_n 0, .aload_n 0, []), some (3, .getfield 7, .getfield 385, [748]), none, none, some (1, .iconst 1, .iconst 1, []), some (1, .isub, .isub, []), 
  some (1, .istore_n 1, .istore_n 1, []), some (1, .iload_n 1, .iload_n 1, []), some (3, .ifCond .lt 58, .ifCond .lt 66, []), none, none, some (1, .aload_n 0, .aload_n 0, []), 
  some (1, .iload_n 1, .iload_n 1, []), some (3, .invokevirtual 145, .invokevirtual 106, [937, 939, 39]), none, none, some (1, .istore_n 2, .istore_n 2, []), 
  some (1, .aload_n 0, .aload_n 0, []), some (3, .getfield 29, .getfield 391, [754]), none, none, some (1, .iload_n 1, .iload_n 1, []), some (1, .iload_n 2, .iload_n 2, []), 
  some (3, .ifCond .ne 7, .ifCond .ne 30, []), none, none, some (1, .iconst 0, .iconst 0, []), some (3, .goto 5, .goto 32, []), none, none, some (2, .bipush 64, .bipush 64, []), 
  none, some (1, .iastore, .iastore, []), some (1, .aload_n 0, .aload_n 0, []), some (3, .getfield 29, .getfield 391, [754]), none, none, some (1, .iload_n 1, .iload_n 1, []), 
  some (1, .iaload, .iaload, []), some (1, .iload_n 2, .iload_n 2, []), some (3, .if_icmp .ge 20, .if_icmp .ge 60, []), none, none, some (1, .aload_n 0, .aload_n 0, []), 
  some (3, .getfield 29, .getfield 391, [754]), none, none, some (1, .iload_n 1, .iload_n 1, []), some (1, .iconst 2, .iconst 2, []), some (1, .aload_n 0, .aload_n 0, []), 
  some (3, .getfield 29, .getfield 391, [754]), none, none, some (1, .iload_n 1, .iload_n 1, []), some (1, .iaload, .iaload, []), some (1, .imul, .imul, []), 
  some (1, .iastore, .iastore, []), some (3, .goto (-24), .goto 33, []), none, none, some (3, .iinc 1 (-1), .iinc 1 (-1), []), none, none, some (3, .goto (-56), .goto 7, []), 
  none, none, some (1, .return_, .return_, [])])
def mj_Mo_laidBy : mv_J := (⟨"PlugTreeModel", "laidBy", "(I)I"⟩, prog_8_method_23_code, 6, some .int, [], [], 2, 6, [
  some (1, .iconst 0, .iconst 0, []), some (1, .istore_n 2, .istore_n 2, []), some (1, .iconst 4, .iconst 4, []), some (1, .iload_n 1, .iload_n 1, []), 
  some (1, .imul, .imul, []), some (1, .istore_n 3, .istore_n 3, []), some (1, .iload_n 3, .iload_n 3, []), some (1, .iconst 4, .iconst 4, []), some (1, .iload_n 1, .iload_n 1, []), 
  some (1, .imul, .imul, []), some (1, .iconst 4, .iconst 4, []), some (1, .iadd, .iadd, []), some (3, .if_icmp .ge 79, .if_icmp .ge 91, []), none, none, 
  some (1, .aload_n 0, .aload_n 0, []), some (3, .getfield 13, .getfield 386, [749]), none, none, some (1, .iload_n 3, .iload_n 3, []), some (1, .iaload, .iaload, []), 
  some (2, .istore 4, .istore 4, []), none, some (1, .iconst 0, .iconst 0, []), some (2, .istore 5, .istore 5, []), none, some (2, .iload 5, .iload 5, []), 
  none, some (1, .iconst 3, .iconst 3, []), some (3, .if_icmp .ge 30, .if_icmp .ge 59, []), none, none, some (2, .iload 4, .iload 4, []), none, some (2, .bipush 100, .bipush 100, []), 
  none, some (3, .if_icmp .lt 23, .if_icmp .lt 59, []), none, none, some (1, .iload_n 2, .iload_n 2, []), some (1, .aload_n 0, .aload_n 0, []), some (2, .iload 4, .iload 4, []), 
  none, some (2, .bipush 100, .bipush 100, []), none, some (1, .isub, .isub, []), some (2, .iload 5, .iload 5, []), none, some (3, .invokevirtual 124, .invokevirtual 100, [913, 915, 33]), 
  none, none, some (1, .iadd, .iadd, []), some (1, .istore_n 2, .istore_n 2, []), some (3, .iinc 5 1, .iinc 5 1, []), none, none, some (3, .goto (-30), .goto 26, []), 
  none, none, some (2, .iload 4, .iload 4, []), none, some (3, .ifCond .lt 22, .ifCond .lt 83, []), none, none, some (2, .iload 4, .iload 4, []), none, 
  some (2, .bipush 100, .bipush 100, []), none, some (3, .if_icmp .ge 15, .if_icmp .ge 83, []), none, none, some (1, .iload_n 2, .iload_n 2, []), some (1, .aload_n 0, .aload_n 0, []), 
  some (3, .getfield 29, .getfield 391, [754]), none, none, some (2, .iload 4, .iload 4, []), none, some (1, .iaload, .iaload, []), some (1, .iadd, .iadd, []), 
  some (3, .goto 4, .goto 84, []), none, none, some (1, .iload_n 2, .iload_n 2, []), some (1, .istore_n 2, .istore_n 2, []), some (3, .iinc 3 1, .iinc 3 1, []), 
  none, none, some (3, .goto (-82), .goto 6, []), none, none, some (1, .iload_n 2, .iload_n 2, []), some (1, .ireturn, .ireturn, [])])
def mj_Mo_change : mv_J := (⟨"PlugTreeModel", "change", "(II)V"⟩, prog_8_method_13_code, 4, none, [], [], 3, 6, [
  some (1, .iconst 0, .iconst 0, []), some (1, .istore_n 3, .istore_n 3, []), some (1, .iload_n 3, .iload_n 3, []), some (1, .aload_n 0, .aload_n 0, []), 
  some (3, .getfield 91, .getfield 396, [759]), none, none, some (3, .if_icmp .ge 35, .if_icmp .ge 42, []), none, none, some (1, .aload_n 0, .aload_n 0, []), 
  some (3, .getfield 48, .getfield 399, [762]), none, none, some (1, .iload_n 3, .iload_n 3, []), some (1, .aload_n 0, .aload_n 0, []), some (3, .getfield 48, .getfield 399, [762]), 
  none, none, some (1, .iload_n 3, .iload_n 3, []), some (1, .iaload, .iaload, []), some (1, .iload_n 1, .iload_n 1, []), some (3, .if_icmp .ne 7, .if_icmp .ne 29, []), 
  none, none, some (1, .iload_n 2, .iload_n 2, []), some (3, .goto 9, .goto 35, []), none, none, some (1, .aload_n 0, .aload_n 0, []), some (3, .getfield 48, .getfield 399, [762]), 
  none, none, some (1, .iload_n 3, .iload_n 3, []), some (1, .iaload, .iaload, []), some (1, .iastore, .iastore, []), some (3, .iinc 3 1, .iinc 3 1, []), 
  none, none, some (3, .goto (-37), .goto 2, []), none, none, some (1, .return_, .return_, [])])
def mj_Mo_moveAll : mv_J := (⟨"PlugTreeModel", "moveAll", "()V"⟩, prog_8_method_26_code, 3, none, [], [], 1, 6, [
  some (1, .aload_n 0, .aload_n 0, []), some (3, .invokevirtual 151, .invokevirtual 109, [949, 951, 42]), none, none, some (1, .aload_n 0, .aload_n 0, []), 
  some (1, .iconst 0, .iconst 0, []), some (3, .putfield 154, .putfield 407, [770]), none, none, some (1, .iconst 0, .iconst 0, []), some (1, .istore_n 1, .istore_n 1, []), 
  some (1, .iload_n 1, .iload_n 1, []), some (1, .aload_n 0, .aload_n 0, []), some (3, .getfield 91, .getfield 396, [759]), none, none, some (3, .if_icmp .ge 115, .if_icmp .ge 131, []), 
  none, none, some (1, .iconst 0, .iconst 0, []), some (1, .istore_n 2, .istore_n 2, []), some (1, .iload_n 2, .iload_n 2, []), some (1, .iconst 3, .iconst 3, []), 
  some (3, .if_icmp .ge 102, .if_icmp .ge 125, []), none, none, some (1, .aload_n 0, .aload_n 0, []), some (1, .iload_n 1, .iload_n 1, []), some (3, .invokevirtual 113, .invokevirtual 94, [890, 892, 28]), 
  none, none, some (3, .ifCond .ne 11, .ifCond .ne 42, []), none, none, some (1, .iload_n 1, .iload_n 1, []), some (1, .aload_n 0, .aload_n 0, []), some (3, .getfield 66, .getfield 405, [768]), 
  none, none, some (3, .if_icmp .ne 86, .if_icmp .ne 125, []), none, none, some (1, .aload_n 0, .aload_n 0, []), some (1, .iload_n 1, .iload_n 1, []), 
  some (1, .iload_n 2, .iload_n 2, []), some (3, .invokevirtual 124, .invokevirtual 100, [913, 915, 33]), none, none, some (3, .ifCond .le 71, .ifCond .le 119, []), 
  none, none, some (1, .aload_n 0, .aload_n 0, []), some (1, .iload_n 1, .iload_n 1, []), some (1, .aload_n 0, .aload_n 0, []), some (3, .getfield 66, .getfield 405, [768]), 
  none, none, some (3, .if_icmp .eq 35, .if_icmp .eq 92, []), none, none, some (1, .aload_n 0, .aload_n 0, []), some (3, .getfield 54, .getfield 401, [764]), 
  none, none, some (1, .iconst 3, .iconst 3, []), some (1, .iload_n 1, .iload_n 1, []), some (1, .imul, .imul, []), some (1, .iload_n 2, .iload_n 2, []), 
  some (1, .iadd, .iadd, []), some (1, .iaload, .iaload, []), some (1, .aload_n 0, .aload_n 0, []), some (3, .getfield 57, .getfield 402, [765]), none, 
  none, some (1, .iconst 3, .iconst 3, []), some (1, .iload_n 1, .iload_n 1, []), some (1, .imul, .imul, []), some (1, .iload_n 2, .iload_n 2, []), some (1, .iadd, .iadd, []), 
  some (1, .iaload, .iaload, []), some (3, .if_icmp .eq 12, .if_icmp .eq 92, []), none, none, some (1, .aload_n 0, .aload_n 0, []), some (3, .getfield 154, .getfield 407, [770]), 
  none, none, some (1, .iconst 1, .iconst 1, []), some (1, .iadd, .iadd, []), some (3, .goto 7, .goto 96, []), none, none, some (1, .aload_n 0, .aload_n 0, []), 
  some (3, .getfield 154, .getfield 407, [770]), none, none, some (3, .putfield 154, .putfield 407, [770]), none, none, some (1, .aload_n 0, .aload_n 0, []), 
  some (3, .getfield 54, .getfield 401, [764]), none, none, some (1, .iconst 3, .iconst 3, []), some (1, .iload_n 1, .iload_n 1, []), some (1, .imul, .imul, []), 
  some (1, .iload_n 2, .iload_n 2, []), some (1, .iadd, .iadd, []), some (1, .aload_n 0, .aload_n 0, []), some (3, .getfield 57, .getfield 402, [765]), 
  none, none, some (1, .iconst 3, .iconst 3, []), some (1, .iload_n 1, .iload_n 1, []), some (1, .imul, .imul, []), some (1, .iload_n 2, .iload_n 2, []), 
  some (1, .iadd, .iadd, []), some (1, .iaload, .iaload, []), some (1, .iastore, .iastore, []), some (3, .iinc 2 1, .iinc 2 1, []), none, none, some (3, .goto (-101), .goto 21, []), 
  none, none, some (3, .iinc 1 1, .iinc 1 1, []), none, none, some (3, .goto (-117), .goto 11, []), none, none, some (1, .aload_n 0, .aload_n 0, []), some (1, .iconst 2, .iconst 2, []), 
  some (1, .iconst 1, .iconst 1, []), some (3, .invokevirtual 157, .invokevirtual 107, [941, 943, 40]), none, none, some (1, .aload_n 0, .aload_n 0, []), 
  some (3, .getfield 48, .getfield 399, [762]), none, none, some (1, .aload_n 0, .aload_n 0, []), some (3, .getfield 66, .getfield 405, [768]), none, none, 
  some (1, .iconst 1, .iconst 1, []), some (1, .iastore, .iastore, []), some (1, .aload_n 0, .aload_n 0, []), some (1, .iconst (-1), .iconst (-1), []), 
  some (3, .putfield 66, .putfield 405, [768]), none, none, some (1, .return_, .return_, [])])
def mj_Mo_plan : mv_J := (⟨"PlugTreeModel", "plan", "()V"⟩, prog_8_method_25_code, 7, none, [], [], 1, 6, [
  some (1, .aload_n 0, .aload_n 0, []), some (3, .invokevirtual 148, .invokevirtual 105, [933, 935, 38]), none, none, some (1, .iconst 0, .iconst 0, []), 
  some (1, .istore_n 1, .istore_n 1, []), some (1, .iload_n 1, .iload_n 1, []), some (1, .aload_n 0, .aload_n 0, []), some (3, .getfield 7, .getfield 385, [748]), 
  none, none, some (3, .if_icmp .ge 224, .if_icmp .ge 235, []), none, none, some (1, .aload_n 0, .aload_n 0, []), some (3, .getfield 23, .getfield 389, [752]), 
  none, none, some (1, .iload_n 1, .iload_n 1, []), some (1, .iload_n 1, .iload_n 1, []), some (3, .ifCond .le 16, .ifCond .le 36, []), none, none, some (1, .aload_n 0, .aload_n 0, []), 
  some (3, .getfield 29, .getfield 391, [754]), none, none, some (1, .iload_n 1, .iload_n 1, []), some (1, .iaload, .iaload, []), some (3, .ifCond .ne 7, .ifCond .ne 36, []), 
  none, none, some (1, .iconst 0, .iconst 0, []), some (3, .goto 9, .goto 42, []), none, none, some (1, .aload_n 0, .aload_n 0, []), some (3, .getfield 23, .getfield 389, [752]), 
  none, none, some (1, .iload_n 1, .iload_n 1, []), some (1, .iaload, .iaload, []), some (1, .iastore, .iastore, []), some (1, .aload_n 0, .aload_n 0, []), 
  some (3, .getfield 26, .getfield 390, [753]), none, none, some (1, .iload_n 1, .iload_n 1, []), some (1, .iload_n 1, .iload_n 1, []), some (3, .ifCond .ne 9, .ifCond .ne 58, []), 
  none, none, some (3, .sipush 4096, .sipush 4096, []), none, none, some (3, .goto 29, .goto 84, []), none, none, some (1, .aload_n 0, .aload_n 0, []), 
  some (3, .getfield 29, .getfield 391, [754]), none, none, some (1, .iload_n 1, .iload_n 1, []), some (1, .iaload, .iaload, []), some (3, .ifCond .ne 7, .ifCond .ne 71, []), 
  none, none, some (1, .iconst 0, .iconst 0, []), some (3, .goto 16, .goto 84, []), none, none, some (1, .aload_n 0, .aload_n 0, []), some (3, .getfield 23, .getfield 389, [752]), 
  none, none, some (1, .iload_n 1, .iload_n 1, []), some (1, .iaload, .iaload, []), some (1, .aload_n 0, .aload_n 0, []), some (3, .getfield 29, .getfield 391, [754]), 
  none, none, some (1, .iload_n 1, .iload_n 1, []), some (1, .iaload, .iaload, []), some (1, .iadd, .iadd, []), some (1, .iastore, .iastore, []), some (1, .aload_n 0, .aload_n 0, []), 
  some (3, .getfield 23, .getfield 389, [752]), none, none, some (1, .iload_n 1, .iload_n 1, []), some (1, .iaload, .iaload, []), some (1, .istore_n 2, .istore_n 2, []), 
  some (3, .sipush 4096, .sipush 4096, []), none, none, some (1, .istore_n 3, .istore_n 3, []), some (1, .iload_n 3, .iload_n 3, []), some (3, .ifCond .le 132, .ifCond .le 229, []), 
  none, none, some (1, .iconst 4, .iconst 4, []), some (1, .iload_n 1, .iload_n 1, []), some (1, .imul, .imul, []), some (2, .istore 4, .istore 4, []), 
  none, some (2, .iload 4, .iload 4, []), none, some (1, .iconst 4, .iconst 4, []), some (1, .iload_n 1, .iload_n 1, []), some (1, .imul, .imul, []), some (1, .iconst 4, .iconst 4, []), 
  some (1, .iadd, .iadd, []), some (3, .if_icmp .ge 110, .if_icmp .ge 222, []), none, none, some (1, .aload_n 0, .aload_n 0, []), some (3, .getfield 13, .getfield 386, [749]), 
  none, none, some (2, .iload 4, .iload 4, []), none, some (1, .iaload, .iaload, []), some (2, .istore 5, .istore 5, []), none, some (1, .iconst 0, .iconst 0, []), 
  some (2, .istore 6, .istore 6, []), none, some (2, .iload 6, .iload 6, []), none, some (1, .iconst 3, .iconst 3, []), some (3, .if_icmp .ge 51, .if_icmp .ge 181, []), 
  none, none, some (2, .iload 5, .iload 5, []), none, some (2, .bipush 100, .bipush 100, []), none, some (3, .if_icmp .lt 44, .if_icmp .lt 181, []), none, 
  none, some (1, .aload_n 0, .aload_n 0, []), some (2, .iload 5, .iload 5, []), none, some (2, .bipush 100, .bipush 100, []), none, some (1, .isub, .isub, []), 
  some (2, .iload 6, .iload 6, []), none, some (3, .invokevirtual 124, .invokevirtual 100, [913, 915, 33]), none, none, some (1, .iload_n 3, .iload_n 3, []), 
  some (3, .if_icmp .ne 23, .if_icmp .ne 175, []), none, none, some (1, .aload_n 0, .aload_n 0, []), some (3, .getfield 57, .getfield 402, [765]), none, 
  none, some (1, .iconst 3, .iconst 3, []), some (2, .iload 5, .iload 5, []), none, some (2, .bipush 100, .bipush 100, []), none, some (1, .isub, .isub, []), 
  some (1, .imul, .imul, []), some (2, .iload 6, .iload 6, []), none, some (1, .iadd, .iadd, []), some (1, .iload_n 2, .iload_n 2, []), some (1, .iastore, .iastore, []), 
  some (1, .iload_n 2, .iload_n 2, []), some (1, .iload_n 3, .iload_n 3, []), some (1, .iadd, .iadd, []), some (1, .istore_n 2, .istore_n 2, []), some (3, .iinc 6 1, .iinc 6 1, []), 
  none, none, some (3, .goto (-51), .goto 127, []), none, none, some (2, .iload 5, .iload 5, []), none, some (3, .ifCond .lt 33, .ifCond .lt 216, []), 
  none, none, some (2, .iload 5, .iload 5, []), none, some (2, .bipush 100, .bipush 100, []), none, some (3, .if_icmp .ge 26, .if_icmp .ge 216, []), none, 
  none, some (1, .aload_n 0, .aload_n 0, []), some (3, .getfield 29, .getfield 391, [754]), none, none, some (2, .iload 5, .iload 5, []), none, some (1, .iaload, .iaload, []), 
  some (1, .iload_n 3, .iload_n 3, []), some (3, .if_icmp .ne 15, .if_icmp .ne 216, []), none, none, some (1, .aload_n 0, .aload_n 0, []), some (3, .getfield 23, .getfield 389, [752]), 
  none, none, some (2, .iload 5, .iload 5, []), none, some (1, .iload_n 2, .iload_n 2, []), some (1, .iastore, .iastore, []), some (1, .iload_n 2, .iload_n 2, []), 
  some (1, .iload_n 3, .iload_n 3, []), some (1, .iadd, .iadd, []), some (1, .istore_n 2, .istore_n 2, []), some (3, .iinc 4 1, .iinc 4 1, []), none, none, 
  some (3, .goto (-114), .goto 105, []), none, none, some (1, .iload_n 3, .iload_n 3, []), some (1, .iconst 2, .iconst 2, []), some (1, .idiv, .idiv, []), 
  some (1, .istore_n 3, .istore_n 3, []), some (3, .goto (-130), .goto 96, []), none, none, some (3, .iinc 1 1, .iinc 1 1, []), none, none, some (3, .goto (-226), .goto 6, []), 
  none, none, some (1, .return_, .return_, [])])
def mj_Mo_settle : mv_J := (⟨"PlugTreeModel", "settle", "()I"⟩, prog_8_method_31_code, 2, some .int, [], [], 1, 6, [
  some (1, .aload_n 0, .aload_n 0, []), some (1, .iconst 0, .iconst 0, []), some (3, .putfield 88, .putfield 384, [747]), none, none, some (1, .iconst 0, .iconst 0, []), 
  some (1, .istore_n 1, .istore_n 1, []), some (1, .aload_n 0, .aload_n 0, []), some (3, .invokevirtual 181, .invokevirtual 90, [874, 876, 24]), none, 
  none, some (3, .ifCond .eq 9, .ifCond .eq 20, []), none, none, some (3, .iinc 1 1, .iinc 1 1, []), none, none, some (3, .goto (-10), .goto 7, []), none, 
  none, some (1, .iload_n 1, .iload_n 1, []), some (1, .ireturn, .ireturn, [])])
def mj_Mo_pull : mv_J := (⟨"PlugTreeModel", "pull", "(I)I"⟩, prog_8_method_35_code, 2, some .int, [], [], 2, 6, [
  some (1, .aload_n 0, .aload_n 0, []), some (1, .aload_n 0, .aload_n 0, []), some (1, .iload_n 1, .iload_n 1, []), some (3, .invokevirtual 191, .invokevirtual 112, [961, 963, 43]), 
  none, none, some (3, .ifCond .ne 7, .ifCond .ne 13, []), none, none, some (1, .iconst 1, .iconst 1, []), some (3, .goto 28, .goto 38, []), none, none, 
  some (1, .aload_n 0, .aload_n 0, []), some (3, .getfield 48, .getfield 399, [762]), none, none, some (1, .iload_n 1, .iload_n 1, []), some (1, .iaload, .iaload, []), 
  some (1, .iconst 4, .iconst 4, []), some (3, .if_icmp .eq 13, .if_icmp .eq 33, []), none, none, some (1, .aload_n 0, .aload_n 0, []), some (3, .getfield 48, .getfield 399, [762]), 
  none, none, some (1, .iload_n 1, .iload_n 1, []), some (1, .iaload, .iaload, []), some (1, .iconst 5, .iconst 5, []), some (3, .if_icmp .ne 7, .if_icmp .ne 37, []), 
  none, none, some (1, .iconst 2, .iconst 2, []), some (3, .goto 4, .goto 38, []), none, none, some (1, .iconst 0, .iconst 0, []), some (3, .putfield 88, .putfield 384, [747]), 
  none, none, some (1, .aload_n 0, .aload_n 0, []), some (3, .getfield 88, .getfield 384, [747]), none, none, some (3, .ifCond .le 5, .ifCond .le 50, []), 
  none, none, some (1, .iconst 0, .iconst 0, []), some (1, .ireturn, .ireturn, []), some (1, .iload_n 1, .iload_n 1, []), some (1, .aload_n 0, .aload_n 0, []), 
  some (3, .getfield 66, .getfield 405, [768]), none, none, some (3, .if_icmp .ne 16, .if_icmp .ne 71, []), none, none, some (1, .aload_n 0, .aload_n 0, []), 
  some (3, .getfield 109, .getfield 406, [769]), none, none, some (3, .ifCond .eq 9, .ifCond .eq 71, []), none, none, some (1, .aload_n 0, .aload_n 0, []), 
  some (1, .iconst 2, .iconst 2, []), some (1, .iconst 1, .iconst 1, []), some (3, .invokevirtual 157, .invokevirtual 107, [941, 943, 40]), none, none, 
  some (1, .aload_n 0, .aload_n 0, []), some (1, .iload_n 1, .iload_n 1, []), some (1, .iconst 4, .iconst 4, []), some (3, .invokevirtual 161, .invokevirtual 91, [878, 880, 25]), 
  none, none, some (1, .aload_n 0, .aload_n 0, []), some (1, .iload_n 1, .iload_n 1, []), some (1, .iconst (-1), .iconst (-1), []), some (3, .invokevirtual 194, .invokevirtual 113, [965, 967, 44]), 
  none, none, some (1, .ireturn, .ireturn, [])])
def mj_Mo_isCard : mv_J := (⟨"PlugTreeModel", "isCard", "(I)Z"⟩, prog_8_method_5_code, 2, some .boolean, [], [], 2, 6, [
  some (1, .iload_n 1, .iload_n 1, []), some (3, .ifCond .lt 15, .ifCond .lt 16, []), none, none, some (1, .iload_n 1, .iload_n 1, []), some (1, .aload_n 0, .aload_n 0, []), 
  some (3, .getfield 91, .getfield 396, [759]), none, none, some (3, .if_icmp .ge 7, .if_icmp .ge 16, []), none, none, some (1, .iconst 1, .iconst 1, []), 
  some (3, .goto 4, .goto 17, []), none, none, some (1, .iconst 0, .iconst 0, []), some (1, .ireturn, .ireturn, [])])
def mj_Mo_lose : mv_J := (⟨"PlugTreeModel", "lose", "(II)I"⟩, prog_8_method_34_code, 5, some .int, [], [], 3, 6, [
  some (1, .iconst 0, .iconst 0, []), some (1, .istore_n 3, .istore_n 3, []), some (1, .iconst 0, .iconst 0, []), some (2, .istore 4, .istore 4, []), none, 
  some (2, .iload 4, .iload 4, []), none, some (1, .aload_n 0, .aload_n 0, []), some (3, .getfield 184, .getfield 408, [771]), none, none, some (3, .if_icmp .ge 53, .if_icmp .ge 64, []), 
  none, none, some (1, .aload_n 0, .aload_n 0, []), some (3, .getfield 69, .getfield 409, [772]), none, none, some (2, .iload 4, .iload 4, []), none, some (1, .iaload, .iaload, []), 
  some (1, .iload_n 1, .iload_n 1, []), some (3, .if_icmp .ne 36, .if_icmp .ne 58, []), none, none, some (1, .aload_n 0, .aload_n 0, []), some (3, .getfield 78, .getfield 412, [775]), 
  none, none, some (2, .iload 4, .iload 4, []), none, some (1, .laload, .laload, []), some (3, .ldc2_w 187, .ldc2_w 1099511627776, [969]), none, none, 
  some (1, .lcmp, .lcmp, []), some (3, .ifCond .ne 22, .ifCond .ne 58, []), none, none, some (2, .iload 4, .iload 4, []), none, some (1, .iload_n 2, .iload_n 2, []), 
  some (3, .if_icmp .eq 16, .if_icmp .eq 58, []), none, none, some (1, .aload_n 0, .aload_n 0, []), some (3, .getfield 78, .getfield 412, [775]), none, 
  none, some (2, .iload 4, .iload 4, []), none, some (3, .ldc2_w 189, .ldc2_w 2199023255552, [970]), none, none, some (1, .lastore, .lastore, []), some (3, .iinc 3 1, .iinc 3 1, []), 
  none, none, some (3, .iinc 4 1, .iinc 4 1, []), none, none, some (3, .goto (-56), .goto 5, []), none, none, some (1, .iload_n 3, .iload_n 3, []), some (1, .ireturn, .ireturn, [])
  ])
def mj_Mo_leave : mv_J := (⟨"PlugTreeModel", "leave", "(I)I"⟩, prog_8_method_36_code, 2, some .int, [], [], 2, 6, [
  some (1, .aload_n 0, .aload_n 0, []), some (1, .aload_n 0, .aload_n 0, []), some (1, .iload_n 1, .iload_n 1, []), some (3, .invokevirtual 191, .invokevirtual 112, [961, 963, 43]), 
  none, none, some (3, .ifCond .ne 7, .ifCond .ne 13, []), none, none, some (1, .iconst 1, .iconst 1, []), some (3, .goto 18, .goto 28, []), none, none, 
  some (1, .aload_n 0, .aload_n 0, []), some (3, .getfield 48, .getfield 399, [762]), none, none, some (1, .iload_n 1, .iload_n 1, []), some (1, .iaload, .iaload, []), 
  some (1, .iconst 1, .iconst 1, []), some (3, .if_icmp .eq 7, .if_icmp .eq 27, []), none, none, some (1, .iconst 2, .iconst 2, []), some (3, .goto 4, .goto 28, []), 
  none, none, some (1, .iconst 0, .iconst 0, []), some (3, .putfield 88, .putfield 384, [747]), none, none, some (1, .aload_n 0, .aload_n 0, []), some (3, .getfield 88, .getfield 384, [747]), 
  none, none, some (3, .ifCond .le 5, .ifCond .le 40, []), none, none, some (1, .iconst 0, .iconst 0, []), some (1, .ireturn, .ireturn, []), some (1, .aload_n 0, .aload_n 0, []), 
  some (3, .getfield 48, .getfield 399, [762]), none, none, some (1, .iload_n 1, .iload_n 1, []), some (1, .iconst 3, .iconst 3, []), some (1, .iastore, .iastore, []), 
  some (1, .aload_n 0, .aload_n 0, []), some (1, .iload_n 1, .iload_n 1, []), some (1, .aload_n 0, .aload_n 0, []), some (3, .getfield 60, .getfield 403, [766]), 
  none, none, some (1, .iload_n 1, .iload_n 1, []), some (1, .iaload, .iaload, []), some (3, .ifCond .le 11, .ifCond .le 66, []), none, none, some (1, .aload_n 0, .aload_n 0, []), 
  some (1, .iload_n 1, .iload_n 1, []), some (3, .invokevirtual 197, .invokevirtual 115, [975, 977, 45]), none, none, some (3, .goto 4, .goto 67, []), 
  none, none, some (1, .iconst (-1), .iconst (-1), []), some (3, .invokevirtual 194, .invokevirtual 113, [965, 967, 44]), none, none, some (1, .ireturn, .ireturn, [])
  ])
def mj_Mo_firstOf : mv_J := (⟨"PlugTreeModel", "firstOf", "(I)I"⟩, prog_8_method_33_code, 4, some .int, [], [], 2, 6, [
  some (1, .iconst (-1), .iconst (-1), []), some (1, .istore_n 2, .istore_n 2, []), some (1, .aload_n 0, .aload_n 0, []), some (3, .getfield 184, .getfield 408, [771]), 
  none, none, some (1, .iconst 1, .iconst 1, []), some (1, .isub, .isub, []), some (1, .istore_n 3, .istore_n 3, []), some (1, .iload_n 3, .iload_n 3, []), 
  some (3, .ifCond .lt 38, .ifCond .lt 48, []), none, none, some (1, .aload_n 0, .aload_n 0, []), some (3, .getfield 69, .getfield 409, [772]), none, none, 
  some (1, .iload_n 3, .iload_n 3, []), some (1, .iaload, .iaload, []), some (1, .iload_n 1, .iload_n 1, []), some (3, .if_icmp .ne 20, .if_icmp .ne 40, []), 
  none, none, some (1, .aload_n 0, .aload_n 0, []), some (3, .getfield 78, .getfield 412, [775]), none, none, some (1, .iload_n 3, .iload_n 3, []), some (1, .laload, .laload, []), 
  some (3, .ldc2_w 187, .ldc2_w 1099511627776, [969]), none, none, some (1, .lcmp, .lcmp, []), some (3, .ifCond .ne 7, .ifCond .ne 40, []), none, none, 
  some (1, .iload_n 3, .iload_n 3, []), some (3, .goto 4, .goto 41, []), none, none, some (1, .iload_n 2, .iload_n 2, []), some (1, .istore_n 2, .istore_n 2, []), 
  some (3, .iinc 3 (-1), .iinc 3 (-1), []), none, none, some (3, .goto (-36), .goto 9, []), none, none, some (1, .iload_n 2, .iload_n 2, []), some (1, .ireturn, .ireturn, [])
  ])
def mj_Mo_request : mv_J := (⟨"PlugTreeModel", "request", "(III)I"⟩, prog_8_method_37_code, 4, some .int, [], [], 4, 6, [
  some (1, .aload_n 0, .aload_n 0, []), some (1, .aload_n 0, .aload_n 0, []), some (1, .iload_n 1, .iload_n 1, []), some (3, .invokevirtual 191, .invokevirtual 112, [961, 963, 43]), 
  none, none, some (3, .ifCond .eq 7, .ifCond .eq 13, []), none, none, some (1, .iload_n 2, .iload_n 2, []), some (3, .ifCond .ge 7, .ifCond .ge 17, []), 
  none, none, some (1, .iconst 1, .iconst 1, []), some (3, .goto 38, .goto 52, []), none, none, some (1, .aload_n 0, .aload_n 0, []), some (3, .getfield 48, .getfield 399, [762]), 
  none, none, some (1, .iload_n 1, .iload_n 1, []), some (1, .iaload, .iaload, []), some (1, .iconst 1, .iconst 1, []), some (3, .if_icmp .eq 13, .if_icmp .eq 37, []), 
  none, none, some (1, .aload_n 0, .aload_n 0, []), some (3, .getfield 48, .getfield 399, [762]), none, none, some (1, .iload_n 1, .iload_n 1, []), some (1, .iaload, .iaload, []), 
  some (1, .iconst 2, .iconst 2, []), some (3, .if_icmp .ne 13, .if_icmp .ne 47, []), none, none, some (1, .aload_n 0, .aload_n 0, []), some (1, .iload_n 1, .iload_n 1, []), 
  some (3, .invokevirtual 200, .invokevirtual 117, [983, 985, 46]), none, none, some (2, .bipush 8, .bipush 8, []), none, some (3, .if_icmp .ne 7, .if_icmp .ne 51, []), 
  none, none, some (1, .iconst 2, .iconst 2, []), some (3, .goto 4, .goto 52, []), none, none, some (1, .iconst 0, .iconst 0, []), some (3, .putfield 88, .putfield 384, [747]), 
  none, none, some (1, .aload_n 0, .aload_n 0, []), some (3, .getfield 88, .getfield 384, [747]), none, none, some (3, .ifCond .le 5, .ifCond .le 64, []), 
  none, none, some (1, .iconst 0, .iconst 0, []), some (1, .ireturn, .ireturn, []), some (1, .aload_n 0, .aload_n 0, []), some (3, .getfield 69, .getfield 409, [772]), 
  none, none, some (1, .aload_n 0, .aload_n 0, []), some (3, .getfield 184, .getfield 408, [771]), none, none, some (1, .iload_n 1, .iload_n 1, []), some (1, .iastore, .iastore, []), 
  some (1, .aload_n 0, .aload_n 0, []), some (3, .getfield 72, .getfield 410, [773]), none, none, some (1, .aload_n 0, .aload_n 0, []), some (3, .getfield 184, .getfield 408, [771]), 
  none, none, some (1, .iload_n 2, .iload_n 2, []), some (1, .iastore, .iastore, []), some (1, .aload_n 0, .aload_n 0, []), some (3, .getfield 75, .getfield 411, [774]), 
  none, none, some (1, .aload_n 0, .aload_n 0, []), some (3, .getfield 184, .getfield 408, [771]), none, none, some (1, .iload_n 3, .iload_n 3, []), some (1, .iastore, .iastore, []), 
  some (1, .aload_n 0, .aload_n 0, []), some (3, .getfield 78, .getfield 412, [775]), none, none, some (1, .aload_n 0, .aload_n 0, []), some (3, .getfield 184, .getfield 408, [771]), 
  none, none, some (3, .ldc2_w 187, .ldc2_w 1099511627776, [969]), none, none, some (1, .lastore, .lastore, []), some (1, .aload_n 0, .aload_n 0, []), 
  some (1, .dup, .dup, []), some (3, .getfield 184, .getfield 408, [771]), none, none, some (1, .iconst 1, .iconst 1, []), some (1, .iadd, .iadd, []), 
  some (3, .putfield 184, .putfield 408, [771]), none, none, some (1, .aload_n 0, .aload_n 0, []), some (3, .getfield 184, .getfield 408, [771]), none, 
  none, some (1, .iconst 1, .iconst 1, []), some (1, .isub, .isub, []), some (1, .ireturn, .ireturn, [])])
def mj_Mo_waiting : mv_J := (⟨"PlugTreeModel", "waiting", "(I)I"⟩, prog_8_method_32_code, 4, some .int, [], [], 2, 6, [
  some (1, .iconst 0, .iconst 0, []), some (1, .istore_n 2, .istore_n 2, []), some (1, .iconst 0, .iconst 0, []), some (1, .istore_n 3, .istore_n 3, []), 
  some (1, .iload_n 3, .iload_n 3, []), some (1, .aload_n 0, .aload_n 0, []), some (3, .getfield 184, .getfield 408, [771]), none, none, some (3, .if_icmp .ge 40, .if_icmp .ge 49, []), 
  none, none, some (1, .aload_n 0, .aload_n 0, []), some (3, .getfield 69, .getfield 409, [772]), none, none, some (1, .iload_n 3, .iload_n 3, []), some (1, .iaload, .iaload, []), 
  some (1, .iload_n 1, .iload_n 1, []), some (3, .if_icmp .ne 22, .if_icmp .ne 41, []), none, none, some (1, .aload_n 0, .aload_n 0, []), some (3, .getfield 78, .getfield 412, [775]), 
  none, none, some (1, .iload_n 3, .iload_n 3, []), some (1, .laload, .laload, []), some (3, .ldc2_w 187, .ldc2_w 1099511627776, [969]), none, none, some (1, .lcmp, .lcmp, []), 
  some (3, .ifCond .ne 9, .ifCond .ne 41, []), none, none, some (1, .iload_n 2, .iload_n 2, []), some (1, .iconst 1, .iconst 1, []), some (1, .iadd, .iadd, []), 
  some (3, .goto 4, .goto 42, []), none, none, some (1, .iload_n 2, .iload_n 2, []), some (1, .istore_n 2, .istore_n 2, []), some (3, .iinc 3 1, .iinc 3 1, []), 
  none, none, some (3, .goto (-42), .goto 4, []), none, none, some (1, .iload_n 2, .iload_n 2, []), some (1, .ireturn, .ireturn, [])])
def mj_Mo_work : mv_J := (⟨"PlugTreeModel", "work", "(I)Z"⟩, prog_8_method_38_code, 3, some .boolean, [], [], 2, 6, [
  some (1, .aload_n 0, .aload_n 0, []), some (1, .aload_n 0, .aload_n 0, []), some (1, .iload_n 1, .iload_n 1, []), some (3, .invokevirtual 191, .invokevirtual 112, [961, 963, 43]), 
  none, none, some (3, .ifCond .eq 7, .ifCond .eq 13, []), none, none, some (1, .iconst 0, .iconst 0, []), some (3, .goto 4, .goto 14, []), none, none, 
  some (1, .iconst 1, .iconst 1, []), some (3, .putfield 88, .putfield 384, [747]), none, none, some (1, .aload_n 0, .aload_n 0, []), some (3, .getfield 88, .getfield 384, [747]), 
  none, none, some (3, .ifCond .le 5, .ifCond .le 26, []), none, none, some (1, .iconst 0, .iconst 0, []), some (1, .ireturn, .ireturn, []), some (1, .aload_n 0, .aload_n 0, []), 
  some (1, .iload_n 1, .iload_n 1, []), some (3, .invokevirtual 197, .invokevirtual 115, [975, 977, 45]), none, none, some (1, .istore_n 2, .istore_n 2, []), 
  some (1, .aload_n 0, .aload_n 0, []), some (3, .getfield 60, .getfield 403, [766]), none, none, some (1, .iload_n 1, .iload_n 1, []), some (1, .iaload, .iaload, []), 
  some (3, .ifCond .ne 36, .ifCond .ne 74, []), none, none, some (1, .aload_n 0, .aload_n 0, []), some (3, .getfield 48, .getfield 399, [762]), none, none, 
  some (1, .iload_n 1, .iload_n 1, []), some (1, .iaload, .iaload, []), some (1, .iconst 1, .iconst 1, []), some (3, .if_icmp .ne 7, .if_icmp .ne 55, []), 
  none, none, some (1, .iload_n 2, .iload_n 2, []), some (3, .ifCond .ge 5, .ifCond .ge 57, []), none, none, some (1, .iconst 0, .iconst 0, []), some (1, .ireturn, .ireturn, []), 
  some (1, .aload_n 0, .aload_n 0, []), some (3, .getfield 60, .getfield 403, [766]), none, none, some (1, .iload_n 1, .iload_n 1, []), some (1, .aload_n 0, .aload_n 0, []), 
  some (3, .getfield 72, .getfield 410, [773]), none, none, some (1, .iload_n 2, .iload_n 2, []), some (1, .iaload, .iaload, []), some (2, .bipush 8, .bipush 8, []), 
  none, some (1, .irem, .irem, []), some (1, .iconst 1, .iconst 1, []), some (1, .iadd, .iadd, []), some (1, .iastore, .iastore, []), some (1, .aload_n 0, .aload_n 0, []), 
  some (3, .getfield 60, .getfield 403, [766]), none, none, some (1, .iload_n 1, .iload_n 1, []), some (1, .dup2, .dup2, []), some (1, .iaload, .iaload, []), 
  some (1, .iconst 1, .iconst 1, []), some (1, .isub, .isub, []), some (1, .iastore, .iastore, []), some (1, .aload_n 0, .aload_n 0, []), some (3, .getfield 60, .getfield 403, [766]), 
  none, none, some (1, .iload_n 1, .iload_n 1, []), some (1, .iaload, .iaload, []), some (3, .ifCond .ne 45, .ifCond .ne 135, []), none, none, some (1, .aload_n 0, .aload_n 0, []), 
  some (3, .getfield 63, .getfield 404, [767]), none, none, some (1, .iload_n 1, .iload_n 1, []), some (2, .bipush 31, .bipush 31, []), none, some (1, .aload_n 0, .aload_n 0, []), 
  some (3, .getfield 63, .getfield 404, [767]), none, none, some (1, .iload_n 1, .iload_n 1, []), some (1, .iaload, .iaload, []), some (1, .imul, .imul, []), 
  some (1, .aload_n 0, .aload_n 0, []), some (3, .getfield 75, .getfield 411, [774]), none, none, some (1, .iload_n 2, .iload_n 2, []), some (1, .iaload, .iaload, []), 
  some (1, .iadd, .iadd, []), some (1, .iastore, .iastore, []), some (1, .aload_n 0, .aload_n 0, []), some (3, .getfield 78, .getfield 412, [775]), none, 
  none, some (1, .iload_n 2, .iload_n 2, []), some (1, .aload_n 0, .aload_n 0, []), some (3, .getfield 63, .getfield 404, [767]), none, none, some (1, .iload_n 1, .iload_n 1, []), 
  some (1, .iaload, .iaload, []), some (1, .aload_n 0, .aload_n 0, []), some (3, .getfield 72, .getfield 410, [773]), none, none, some (1, .iload_n 2, .iload_n 2, []), 
  some (1, .iaload, .iaload, []), some (1, .iadd, .iadd, []), some (1, .i2l, .i2l, []), some (1, .lastore, .lastore, []), some (1, .iconst 1, .iconst 1, []), 
  some (1, .ireturn, .ireturn, [])])
def mj_Mo_result : mv_J := (⟨"PlugTreeModel", "result", "(I)J"⟩, prog_8_method_39_code, 2, some .long, [], [], 2, 6, [
  some (1, .aload_n 0, .aload_n 0, []), some (1, .iload_n 1, .iload_n 1, []), some (3, .ifCond .lt 11, .ifCond .lt 13, []), none, none, some (1, .iload_n 1, .iload_n 1, []), 
  some (1, .aload_n 0, .aload_n 0, []), some (3, .getfield 184, .getfield 408, [771]), none, none, some (3, .if_icmp .lt 7, .if_icmp .lt 17, []), none, 
  none, some (1, .iconst 1, .iconst 1, []), some (3, .goto 4, .goto 18, []), none, none, some (1, .iconst 0, .iconst 0, []), some (3, .putfield 88, .putfield 384, [747]), 
  none, none, some (1, .aload_n 0, .aload_n 0, []), some (3, .getfield 88, .getfield 384, [747]), none, none, some (3, .ifCond .le 7, .ifCond .le 32, []), 
  none, none, some (1, .lconst 0, .lconst 0, []), some (3, .goto 9, .goto 38, []), none, none, some (1, .aload_n 0, .aload_n 0, []), some (3, .getfield 78, .getfield 412, [775]), 
  none, none, some (1, .iload_n 1, .iload_n 1, []), some (1, .laload, .laload, []), some (1, .lreturn, .lreturn, [])])
def mj_Mo_card : mv_J := (⟨"PlugTreeModel", "card", "(II)I"⟩, prog_8_method_40_code, 3, some .int, [], [], 3, 6, [
  some (1, .aload_n 0, .aload_n 0, []), some (1, .aload_n 0, .aload_n 0, []), some (1, .iload_n 1, .iload_n 1, []), some (3, .invokevirtual 191, .invokevirtual 112, [961, 963, 43]), 
  none, none, some (3, .ifCond .eq 16, .ifCond .eq 22, []), none, none, some (1, .iload_n 2, .iload_n 2, []), some (1, .iconst 0, .iconst 0, []), some (1, .iconst 3, .iconst 3, []), 
  some (3, .invokestatic 98, .invokestatic 85, [855, 856]), none, none, some (3, .ifCond .eq 7, .ifCond .eq 22, []), none, none, some (1, .iconst 0, .iconst 0, []), 
  some (3, .goto 4, .goto 23, []), none, none, some (1, .iconst 1, .iconst 1, []), some (3, .putfield 88, .putfield 384, [747]), none, none, some (1, .aload_n 0, .aload_n 0, []), 
  some (3, .getfield 88, .getfield 384, [747]), none, none, some (3, .ifCond .le 5, .ifCond .le 35, []), none, none, some (1, .iconst 0, .iconst 0, []), 
  some (1, .ireturn, .ireturn, []), some (1, .iload_n 2, .iload_n 2, []), some (3, .ifCond .ne 12, .ifCond .ne 48, []), none, none, some (1, .aload_n 0, .aload_n 0, []), 
  some (3, .getfield 48, .getfield 399, [762]), none, none, some (1, .iload_n 1, .iload_n 1, []), some (1, .iaload, .iaload, []), some (3, .goto 36, .goto 81, []), 
  none, none, some (1, .iload_n 2, .iload_n 2, []), some (1, .iconst 1, .iconst 1, []), some (3, .if_icmp .ne 12, .if_icmp .ne 62, []), none, none, some (1, .aload_n 0, .aload_n 0, []), 
  some (3, .getfield 51, .getfield 400, [763]), none, none, some (1, .iload_n 1, .iload_n 1, []), some (1, .iaload, .iaload, []), some (3, .goto 22, .goto 81, []), 
  none, none, some (1, .iload_n 2, .iload_n 2, []), some (1, .iconst 2, .iconst 2, []), some (3, .if_icmp .ne 11, .if_icmp .ne 75, []), none, none, some (1, .aload_n 0, .aload_n 0, []), 
  some (1, .iload_n 1, .iload_n 1, []), some (3, .invokevirtual 200, .invokevirtual 117, [983, 985, 46]), none, none, some (3, .goto 9, .goto 81, []), 
  none, none, some (1, .aload_n 0, .aload_n 0, []), some (3, .getfield 60, .getfield 403, [766]), none, none, some (1, .iload_n 1, .iload_n 1, []), some (1, .iaload, .iaload, []), 
  some (1, .ireturn, .ireturn, [])])
def mj_Mo_range : mv_J := (⟨"PlugTreeModel", "range", "(II)I"⟩, prog_8_method_41_code, 3, some .int, [], [], 3, 6, [
  some (1, .aload_n 0, .aload_n 0, []), some (1, .aload_n 0, .aload_n 0, []), some (1, .iload_n 1, .iload_n 1, []), some (3, .invokevirtual 191, .invokevirtual 112, [961, 963, 43]), 
  none, none, some (3, .ifCond .eq 16, .ifCond .eq 22, []), none, none, some (1, .iload_n 2, .iload_n 2, []), some (1, .iconst 0, .iconst 0, []), some (1, .iconst 2, .iconst 2, []), 
  some (3, .invokestatic 98, .invokestatic 85, [855, 856]), none, none, some (3, .ifCond .eq 7, .ifCond .eq 22, []), none, none, some (1, .iconst 0, .iconst 0, []), 
  some (3, .goto 4, .goto 23, []), none, none, some (1, .iconst 1, .iconst 1, []), some (3, .putfield 88, .putfield 384, [747]), none, none, some (1, .aload_n 0, .aload_n 0, []), 
  some (3, .getfield 88, .getfield 384, [747]), none, none, some (3, .ifCond .le 7, .ifCond .le 37, []), none, none, some (1, .iconst 0, .iconst 0, []), 
  some (3, .goto 13, .goto 47, []), none, none, some (1, .aload_n 0, .aload_n 0, []), some (3, .getfield 54, .getfield 401, [764]), none, none, some (1, .iconst 3, .iconst 3, []), 
  some (1, .iload_n 1, .iload_n 1, []), some (1, .imul, .imul, []), some (1, .iload_n 2, .iload_n 2, []), some (1, .iadd, .iadd, []), some (1, .iaload, .iaload, []), 
  some (1, .ireturn, .ireturn, [])])
def mj_Mo_opening : mv_J := (⟨"PlugTreeModel", "opening", "(IZ)I"⟩, prog_8_method_42_code, 3, some .int, [], [], 3, 6, [
  some (1, .aload_n 0, .aload_n 0, []), some (1, .aload_n 0, .aload_n 0, []), some (1, .iload_n 1, .iload_n 1, []), some (3, .invokevirtual 94, .invokevirtual 84, [851, 853, 22]), 
  none, none, some (3, .ifCond .eq 7, .ifCond .eq 13, []), none, none, some (1, .iconst 0, .iconst 0, []), some (3, .goto 4, .goto 14, []), none, none, 
  some (1, .iconst 1, .iconst 1, []), some (3, .putfield 88, .putfield 384, [747]), none, none, some (1, .aload_n 0, .aload_n 0, []), some (3, .getfield 88, .getfield 384, [747]), 
  none, none, some (3, .ifCond .le 7, .ifCond .le 28, []), none, none, some (1, .iconst 0, .iconst 0, []), some (3, .goto 22, .goto 47, []), none, none, 
  some (1, .iload_n 2, .iload_n 2, []), some (3, .ifCond .eq 12, .ifCond .eq 41, []), none, none, some (1, .aload_n 0, .aload_n 0, []), some (3, .getfield 26, .getfield 390, [753]), 
  none, none, some (1, .iload_n 1, .iload_n 1, []), some (1, .iaload, .iaload, []), some (3, .goto 9, .goto 47, []), none, none, some (1, .aload_n 0, .aload_n 0, []), 
  some (3, .getfield 23, .getfield 389, [752]), none, none, some (1, .iload_n 1, .iload_n 1, []), some (1, .iaload, .iaload, []), some (1, .ireturn, .ireturn, [])
  ])
def mj_Mo_decode : mv_J := (⟨"PlugTreeModel", "decode", "(I)I"⟩, prog_8_method_43_code, 6, some .int, [], [], 2, 6, [
  some (1, .aload_n 0, .aload_n 0, []), some (1, .iconst 0, .iconst 0, []), some (3, .putfield 88, .putfield 384, [747]), none, none, some (1, .iconst (-1), .iconst (-1), []), 
  some (1, .istore_n 2, .istore_n 2, []), some (1, .iconst 0, .iconst 0, []), some (1, .istore_n 3, .istore_n 3, []), some (1, .iload_n 3, .iload_n 3, []), 
  some (1, .aload_n 0, .aload_n 0, []), some (3, .getfield 91, .getfield 396, [759]), none, none, some (3, .if_icmp .ge 68, .if_icmp .ge 82, []), none, 
  none, some (1, .iconst 0, .iconst 0, []), some (2, .istore 4, .istore 4, []), none, some (2, .iload 4, .iload 4, []), none, some (1, .iconst 3, .iconst 3, []), 
  some (3, .if_icmp .ge 53, .if_icmp .ge 76, []), none, none, some (1, .aload_n 0, .aload_n 0, []), some (3, .getfield 54, .getfield 401, [764]), none, 
  none, some (1, .iconst 3, .iconst 3, []), some (1, .iload_n 3, .iload_n 3, []), some (1, .imul, .imul, []), some (2, .iload 4, .iload 4, []), none, some (1, .iadd, .iadd, []), 
  some (1, .iaload, .iaload, []), some (2, .istore 5, .istore 5, []), none, some (2, .iload 5, .iload 5, []), none, some (3, .ifCond .lt 27, .ifCond .lt 68, []), 
  none, none, some (1, .iload_n 1, .iload_n 1, []), some (2, .iload 5, .iload 5, []), none, some (3, .if_icmp .lt 21, .if_icmp .lt 68, []), none, none, 
  some (1, .iload_n 1, .iload_n 1, []), some (2, .iload 5, .iload 5, []), none, some (1, .aload_n 0, .aload_n 0, []), some (1, .iload_n 3, .iload_n 3, []), 
  some (2, .iload 4, .iload 4, []), none, some (3, .invokevirtual 124, .invokevirtual 100, [913, 915, 33]), none, none, some (1, .iadd, .iadd, []), some (3, .if_icmp .ge 7, .if_icmp .ge 68, []), 
  none, none, some (1, .iload_n 3, .iload_n 3, []), some (3, .goto 4, .goto 69, []), none, none, some (1, .iload_n 2, .iload_n 2, []), some (1, .istore_n 2, .istore_n 2, []), 
  some (3, .iinc 4 1, .iinc 4 1, []), none, none, some (3, .goto (-53), .goto 20, []), none, none, some (3, .iinc 3 1, .iinc 3 1, []), none, none, some (3, .goto (-70), .goto 9, []), 
  none, none, some (1, .iload_n 2, .iload_n 2, []), some (1, .ireturn, .ireturn, [])])
def mj_Mo_power : mv_J := (⟨"PlugTreeModel", "power", "(I)I"⟩, prog_8_method_44_code, 2, some .int, [], [], 2, 6, [
  some (1, .aload_n 0, .aload_n 0, []), some (1, .aload_n 0, .aload_n 0, []), some (1, .iload_n 1, .iload_n 1, []), some (3, .invokevirtual 94, .invokevirtual 84, [851, 853, 22]), 
  none, none, some (3, .ifCond .eq 7, .ifCond .eq 13, []), none, none, some (1, .iconst 0, .iconst 0, []), some (3, .goto 4, .goto 14, []), none, none, 
  some (1, .iconst 1, .iconst 1, []), some (3, .putfield 88, .putfield 384, [747]), none, none, some (1, .aload_n 0, .aload_n 0, []), some (3, .getfield 88, .getfield 384, [747]), 
  none, none, some (3, .ifCond .le 7, .ifCond .le 28, []), none, none, some (1, .iconst 0, .iconst 0, []), some (3, .goto 8, .goto 33, []), none, none, 
  some (1, .aload_n 0, .aload_n 0, []), some (1, .iload_n 1, .iload_n 1, []), some (3, .invokevirtual 164, .invokevirtual 93, [886, 888, 27]), none, none, 
  some (1, .ireturn, .ireturn, [])])
def mj_Mo_slot : mv_J := (⟨"PlugTreeModel", "slot", "(II)I"⟩, prog_8_method_45_code, 3, some .int, [], [], 3, 6, [
  some (1, .aload_n 0, .aload_n 0, []), some (1, .aload_n 0, .aload_n 0, []), some (1, .iload_n 1, .iload_n 1, []), some (3, .invokevirtual 94, .invokevirtual 84, [851, 853, 22]), 
  none, none, some (3, .ifCond .eq 16, .ifCond .eq 22, []), none, none, some (1, .iload_n 2, .iload_n 2, []), some (1, .iconst 0, .iconst 0, []), some (1, .iconst 3, .iconst 3, []), 
  some (3, .invokestatic 98, .invokestatic 85, [855, 856]), none, none, some (3, .ifCond .eq 7, .ifCond .eq 22, []), none, none, some (1, .iconst 0, .iconst 0, []), 
  some (3, .goto 4, .goto 23, []), none, none, some (1, .iconst 1, .iconst 1, []), some (3, .putfield 88, .putfield 384, [747]), none, none, some (1, .aload_n 0, .aload_n 0, []), 
  some (3, .getfield 88, .getfield 384, [747]), none, none, some (3, .ifCond .le 7, .ifCond .le 37, []), none, none, some (1, .iconst 0, .iconst 0, []), 
  some (3, .goto 13, .goto 47, []), none, none, some (1, .aload_n 0, .aload_n 0, []), some (3, .getfield 13, .getfield 386, [749]), none, none, some (1, .iconst 4, .iconst 4, []), 
  some (1, .iload_n 1, .iload_n 1, []), some (1, .imul, .imul, []), some (1, .iload_n 2, .iload_n 2, []), some (1, .iadd, .iadd, []), some (1, .iaload, .iaload, []), 
  some (1, .ireturn, .ireturn, [])])
def mj_Mo_moved : mv_J := (⟨"PlugTreeModel", "moved", "()I"⟩, prog_8_method_46_code, 1, some .int, [], [], 1, 6, [
  some (1, .aload_n 0, .aload_n 0, []), some (1, .iconst 0, .iconst 0, []), some (3, .putfield 88, .putfield 384, [747]), none, none, some (1, .aload_n 0, .aload_n 0, []), 
  some (3, .getfield 154, .getfield 407, [770]), none, none, some (1, .ireturn, .ireturn, [])])
def mj_Lw_bridge : mv_J := (⟨"PlugTreeLaw", "bridge", "(LPlugTree;III[J)I"⟩, method_3_code, 6, some .int, [(0, 12, 15, 13), (0, 12, 19, 15)], [(0, 12, 15, 8), (0, 12, 19, 9)], 5, 99, [
  some (2, .aload 4, .aload 4, []), none, some (1, .iconst 0, .iconst 0, []), some (1, .aload_n 0, .aload_n 0, []), some (1, .iload_n 1, .iload_n 1, []), 
  some (1, .iload_n 2, .iload_n 2, []), some (1, .iload_n 3, .iload_n 3, []), some (3, .invokevirtual 7, .invokevirtual 64, [370, 371, 372]), none, none, 
  some (1, .i2l, .i2l, []), some (1, .lastore, .lastore, []), some (3, .goto 11, .goto 23, []), none, none, some (2, .astore 5, .astore 5, []), none, some (1, .iconst 1, .iconst 1, []), 
  some (1, .ireturn, .ireturn, []), some (2, .astore 5, .astore 5, []), none, some (1, .iconst 2, .iconst 2, []), some (1, .ireturn, .ireturn, []), some (1, .iconst 0, .iconst 0, []), 
  some (1, .ireturn, .ireturn, [])])
def mj_Lw_type : mv_J := (⟨"PlugTreeLaw", "type", "(LPlugTree;IIIIZ[J)I"⟩, method_4_code, 8, some .int, [(0, 16, 19, 13), (0, 16, 23, 15)], [(0, 16, 19, 8), (0, 16, 23, 9)], 7, 99, [
  some (2, .aload 6, .aload 6, []), none, some (1, .iconst 0, .iconst 0, []), some (1, .aload_n 0, .aload_n 0, []), some (1, .iload_n 1, .iload_n 1, []), 
  some (1, .iload_n 2, .iload_n 2, []), some (1, .iload_n 3, .iload_n 3, []), some (2, .iload 4, .iload 4, []), none, some (2, .iload 5, .iload 5, []), 
  none, some (3, .invokevirtual 17, .invokevirtual 68, [468, 469, 470]), none, none, some (1, .i2l, .i2l, []), some (1, .lastore, .lastore, []), some (3, .goto 11, .goto 27, []), 
  none, none, some (2, .astore 7, .astore 7, []), none, some (1, .iconst 1, .iconst 1, []), some (1, .ireturn, .ireturn, []), some (2, .astore 7, .astore 7, []), 
  none, some (1, .iconst 2, .iconst 2, []), some (1, .ireturn, .ireturn, []), some (1, .iconst 0, .iconst 0, []), some (1, .ireturn, .ireturn, [])])
def mj_Lw_plug : mv_J := (⟨"PlugTreeLaw", "plug", "(LPlugTree;III[J)I"⟩, method_5_code, 6, some .int, [(0, 12, 15, 13), (0, 12, 19, 15)], [(0, 12, 15, 8), (0, 12, 19, 9)], 5, 99, [
  some (2, .aload 4, .aload 4, []), none, some (1, .iconst 0, .iconst 0, []), some (1, .aload_n 0, .aload_n 0, []), some (1, .iload_n 1, .iload_n 1, []), 
  some (1, .iload_n 2, .iload_n 2, []), some (1, .iload_n 3, .iload_n 3, []), some (3, .invokevirtual 21, .invokevirtual 69, [505, 506, 507]), none, none, 
  some (1, .i2l, .i2l, []), some (1, .lastore, .lastore, []), some (3, .goto 11, .goto 23, []), none, none, some (2, .astore 5, .astore 5, []), none, some (1, .iconst 1, .iconst 1, []), 
  some (1, .ireturn, .ireturn, []), some (2, .astore 5, .astore 5, []), none, some (1, .iconst 2, .iconst 2, []), some (1, .ireturn, .ireturn, []), some (1, .iconst 0, .iconst 0, []), 
  some (1, .ireturn, .ireturn, [])])
def mj_Lw_pull : mv_J := (⟨"PlugTreeLaw", "pull", "(LPlugTree;I[J)I"⟩, method_6_code, 4, some .int, [(0, 9, 12, 13), (0, 9, 15, 15)], [(0, 9, 12, 8), (0, 9, 15, 9)], 3, 99, [
  some (1, .aload_n 2, .aload_n 2, []), some (1, .iconst 0, .iconst 0, []), some (1, .aload_n 0, .aload_n 0, []), some (1, .iload_n 1, .iload_n 1, []), 
  some (3, .invokevirtual 24, .invokevirtual 70, [563, 564, 565]), none, none, some (1, .i2l, .i2l, []), some (1, .lastore, .lastore, []), some (3, .goto 9, .goto 18, []), 
  none, none, some (1, .astore_n 3, .astore_n 3, []), some (1, .iconst 1, .iconst 1, []), some (1, .ireturn, .ireturn, []), some (1, .astore_n 3, .astore_n 3, []), 
  some (1, .iconst 2, .iconst 2, []), some (1, .ireturn, .ireturn, []), some (1, .iconst 0, .iconst 0, []), some (1, .ireturn, .ireturn, [])])
def mj_Lw_leave : mv_J := (⟨"PlugTreeLaw", "leave", "(LPlugTree;I[J)I"⟩, method_7_code, 4, some .int, [(0, 9, 12, 13), (0, 9, 15, 15)], [(0, 9, 12, 8), (0, 9, 15, 9)], 3, 99, [
  some (1, .aload_n 2, .aload_n 2, []), some (1, .iconst 0, .iconst 0, []), some (1, .aload_n 0, .aload_n 0, []), some (1, .iload_n 1, .iload_n 1, []), 
  some (3, .invokevirtual 28, .invokevirtual 72, [579, 580, 581]), none, none, some (1, .i2l, .i2l, []), some (1, .lastore, .lastore, []), some (3, .goto 9, .goto 18, []), 
  none, none, some (1, .astore_n 3, .astore_n 3, []), some (1, .iconst 1, .iconst 1, []), some (1, .ireturn, .ireturn, []), some (1, .astore_n 3, .astore_n 3, []), 
  some (1, .iconst 2, .iconst 2, []), some (1, .ireturn, .ireturn, []), some (1, .iconst 0, .iconst 0, []), some (1, .ireturn, .ireturn, [])])
def mj_Lw_request : mv_J := (⟨"PlugTreeLaw", "request", "(LPlugTree;III[J)I"⟩, method_8_code, 6, some .int, [(0, 12, 15, 13), (0, 12, 19, 15)], [(0, 12, 15, 8), (0, 12, 19, 9)], 5, 99, [
  some (2, .aload 4, .aload 4, []), none, some (1, .iconst 0, .iconst 0, []), some (1, .aload_n 0, .aload_n 0, []), some (1, .iload_n 1, .iload_n 1, []), 
  some (1, .iload_n 2, .iload_n 2, []), some (1, .iload_n 3, .iload_n 3, []), some (3, .invokevirtual 31, .invokevirtual 73, [586, 587, 588]), none, none, 
  some (1, .i2l, .i2l, []), some (1, .lastore, .lastore, []), some (3, .goto 11, .goto 23, []), none, none, some (2, .astore 5, .astore 5, []), none, some (1, .iconst 1, .iconst 1, []), 
  some (1, .ireturn, .ireturn, []), some (2, .astore 5, .astore 5, []), none, some (1, .iconst 2, .iconst 2, []), some (1, .ireturn, .ireturn, []), some (1, .iconst 0, .iconst 0, []), 
  some (1, .ireturn, .ireturn, [])])
def mj_Lw_work : mv_J := (⟨"PlugTreeLaw", "work", "(LPlugTree;I[J)I"⟩, method_9_code, 4, some .int, [(0, 16, 19, 13)], [(0, 16, 19, 8)], 3, 99, [
  some (1, .aload_n 2, .aload_n 2, []), some (1, .iconst 0, .iconst 0, []), some (1, .aload_n 0, .aload_n 0, []), some (1, .iload_n 1, .iload_n 1, []), 
  some (3, .invokevirtual 34, .invokevirtual 74, [673, 674, 675]), none, none, some (3, .ifCond .eq 7, .ifCond .eq 14, []), none, none, some (1, .lconst 1, .lconst 1, []), 
  some (3, .goto 4, .goto 15, []), none, none, some (1, .lconst 0, .lconst 0, []), some (1, .lastore, .lastore, []), some (3, .goto 6, .goto 22, []), none, 
  none, some (1, .astore_n 3, .astore_n 3, []), some (1, .iconst 1, .iconst 1, []), some (1, .ireturn, .ireturn, []), some (1, .iconst 0, .iconst 0, []), 
  some (1, .ireturn, .ireturn, [])])
def mj_Lw_result : mv_J := (⟨"PlugTreeLaw", "result", "(LPlugTree;I[J)I"⟩, method_10_code, 4, some .int, [(0, 8, 11, 13)], [(0, 8, 11, 8)], 3, 99, [
  some (1, .aload_n 2, .aload_n 2, []), some (1, .iconst 0, .iconst 0, []), some (1, .aload_n 0, .aload_n 0, []), some (1, .iload_n 1, .iload_n 1, []), 
  some (3, .invokevirtual 38, .invokevirtual 75, [688, 689, 690]), none, none, some (1, .lastore, .lastore, []), some (3, .goto 6, .goto 14, []), none, 
  none, some (1, .astore_n 3, .astore_n 3, []), some (1, .iconst 1, .iconst 1, []), some (1, .ireturn, .ireturn, []), some (1, .iconst 0, .iconst 0, []), 
  some (1, .ireturn, .ireturn, [])])
def mj_Lw_card : mv_J := (⟨"PlugTreeLaw", "card", "(LPlugTree;II[J)I"⟩, method_11_code, 5, some .int, [(0, 10, 13, 13)], [(0, 10, 13, 8)], 4, 99, [
  some (1, .aload_n 3, .aload_n 3, []), some (1, .iconst 0, .iconst 0, []), some (1, .aload_n 0, .aload_n 0, []), some (1, .iload_n 1, .iload_n 1, []), 
  some (1, .iload_n 2, .iload_n 2, []), some (3, .invokevirtual 42, .invokevirtual 76, [709, 710, 711]), none, none, some (1, .i2l, .i2l, []), some (1, .lastore, .lastore, []), 
  some (3, .goto 7, .goto 17, []), none, none, some (2, .astore 4, .astore 4, []), none, some (1, .iconst 1, .iconst 1, []), some (1, .ireturn, .ireturn, []), 
  some (1, .iconst 0, .iconst 0, []), some (1, .ireturn, .ireturn, [])])
def mj_Lw_range : mv_J := (⟨"PlugTreeLaw", "range", "(LPlugTree;II[J)I"⟩, method_12_code, 5, some .int, [(0, 10, 13, 13)], [(0, 10, 13, 8)], 4, 99, [
  some (1, .aload_n 3, .aload_n 3, []), some (1, .iconst 0, .iconst 0, []), some (1, .aload_n 0, .aload_n 0, []), some (1, .iload_n 1, .iload_n 1, []), 
  some (1, .iload_n 2, .iload_n 2, []), some (3, .invokevirtual 46, .invokevirtual 77, [716, 717, 718]), none, none, some (1, .i2l, .i2l, []), some (1, .lastore, .lastore, []), 
  some (3, .goto 7, .goto 17, []), none, none, some (2, .astore 4, .astore 4, []), none, some (1, .iconst 1, .iconst 1, []), some (1, .ireturn, .ireturn, []), 
  some (1, .iconst 0, .iconst 0, []), some (1, .ireturn, .ireturn, [])])
def mj_Lw_opening : mv_J := (⟨"PlugTreeLaw", "opening", "(LPlugTree;IZ[J)I"⟩, method_13_code, 5, some .int, [(0, 10, 13, 13)], [(0, 10, 13, 8)], 4, 99, [
  some (1, .aload_n 3, .aload_n 3, []), some (1, .iconst 0, .iconst 0, []), some (1, .aload_n 0, .aload_n 0, []), some (1, .iload_n 1, .iload_n 1, []), 
  some (1, .iload_n 2, .iload_n 2, []), some (3, .invokevirtual 49, .invokevirtual 78, [723, 724, 725]), none, none, some (1, .i2l, .i2l, []), some (1, .lastore, .lastore, []), 
  some (3, .goto 7, .goto 17, []), none, none, some (2, .astore 4, .astore 4, []), none, some (1, .iconst 1, .iconst 1, []), some (1, .ireturn, .ireturn, []), 
  some (1, .iconst 0, .iconst 0, []), some (1, .ireturn, .ireturn, [])])
def mj_Lw_power : mv_J := (⟨"PlugTreeLaw", "power", "(LPlugTree;I[J)I"⟩, method_14_code, 4, some .int, [(0, 9, 12, 13)], [(0, 9, 12, 8)], 3, 99, [
  some (1, .aload_n 2, .aload_n 2, []), some (1, .iconst 0, .iconst 0, []), some (1, .aload_n 0, .aload_n 0, []), some (1, .iload_n 1, .iload_n 1, []), 
  some (3, .invokevirtual 53, .invokevirtual 79, [730, 731, 732]), none, none, some (1, .i2l, .i2l, []), some (1, .lastore, .lastore, []), some (3, .goto 6, .goto 15, []), 
  none, none, some (1, .astore_n 3, .astore_n 3, []), some (1, .iconst 1, .iconst 1, []), some (1, .ireturn, .ireturn, []), some (1, .iconst 0, .iconst 0, []), 
  some (1, .ireturn, .ireturn, [])])
def mj_Lw_slot : mv_J := (⟨"PlugTreeLaw", "slot", "(LPlugTree;II[J)I"⟩, method_15_code, 5, some .int, [(0, 10, 13, 13)], [(0, 10, 13, 8)], 4, 99, [
  some (1, .aload_n 3, .aload_n 3, []), some (1, .iconst 0, .iconst 0, []), some (1, .aload_n 0, .aload_n 0, []), some (1, .iload_n 1, .iload_n 1, []), 
  some (1, .iload_n 2, .iload_n 2, []), some (3, .invokevirtual 56, .invokevirtual 80, [737, 738, 739]), none, none, some (1, .i2l, .i2l, []), some (1, .lastore, .lastore, []), 
  some (3, .goto 7, .goto 17, []), none, none, some (2, .astore 4, .astore 4, []), none, some (1, .iconst 1, .iconst 1, []), some (1, .ireturn, .ireturn, []), 
  some (1, .iconst 0, .iconst 0, []), some (1, .ireturn, .ireturn, [])])
def mj_Lw_law : mv_J := (⟨"PlugTreeLaw", "law", "([I)Z"⟩, code, 8, some .boolean, [], [], 1, 99, [
  some (3, .new 8, .new 0, [69, 70, 48]), none, none, some (1, .dup, .dup, []), some (3, .invokespecial 59, .invokespecial 41, [71, 72, 73]), none, none, 
  some (1, .astore_n 1, .astore_n 1, []), some (3, .new 60, .new 6, [741, 742, 54]), none, none, some (1, .dup, .dup, []), some (3, .invokespecial 62, .invokespecial 81, [743, 744, 745]), 
  none, none, some (1, .astore_n 2, .astore_n 2, []), some (1, .iconst 1, .iconst 1, []), some (2, .newarray .long, .newarray .long, [842]), none, some (1, .astore_n 3, .astore_n 3, []), 
  some (1, .iconst 0, .iconst 0, []), some (2, .istore 4, .istore 4, []), none, some (2, .iload 4, .iload 4, []), none, some (1, .aload_n 0, .aload_n 0, []), 
  some (1, .arraylength, .arraylength, []), some (2, .bipush 6, .bipush 6, []), none, some (1, .isub, .isub, []), some (3, .if_icmp .gt 1098, .if_icmp .gt 1128, []), 
  none, none, some (1, .aload_n 0, .aload_n 0, []), some (2, .iload 4, .iload 4, []), none, some (1, .iaload, .iaload, []), some (2, .bipush 31, .bipush 31, []), 
  none, some (1, .iand, .iand, []), some (84, .tableswitch 1082 0 16 #[84, 164, 284, 364, 377, 390, 446, 502, 582, 645, 700, 768, 836, 920, 945, 1001, 1069], .tableswitch 1122 0 16 #[124, 204, 324, 404, 417, 430, 486, 542, 622, 685, 740, 808, 876, 960, 985, 1041, 1109], []), 
  none, none, none, none, none, none, none, none, none, none, none, none, none, none, none, none, none, none, none, none, none, none, none, none, none, 
  none, none, none, none, none, none, none, none, none, none, none, none, none, none, none, none, none, none, none, none, none, none, none, none, none, 
  none, none, none, none, none, none, none, none, none, none, none, none, none, none, none, none, none, none, none, none, none, none, none, none, none, 
  none, none, none, none, none, none, none, none, some (1, .aload_n 1, .aload_n 1, []), some (1, .aload_n 0, .aload_n 0, []), some (2, .iload 4, .iload 4, []), 
  none, some (1, .iconst 1, .iconst 1, []), some (1, .iadd, .iadd, []), some (1, .iaload, .iaload, []), some (1, .aload_n 0, .aload_n 0, []), some (2, .iload 4, .iload 4, []), 
  none, some (1, .iconst 2, .iconst 2, []), some (1, .iadd, .iadd, []), some (1, .iaload, .iaload, []), some (1, .aload_n 0, .aload_n 0, []), some (2, .iload 4, .iload 4, []), 
  none, some (1, .iconst 3, .iconst 3, []), some (1, .iadd, .iadd, []), some (1, .iaload, .iaload, []), some (1, .aload_n 3, .aload_n 3, []), some (3, .invokestatic 63, .invokestatic 127, [365, 366]), 
  none, none, some (2, .istore 5, .istore 5, []), none, some (1, .aload_n 2, .aload_n 2, []), some (1, .aload_n 0, .aload_n 0, []), some (2, .iload 4, .iload 4, []), 
  none, some (1, .iconst 1, .iconst 1, []), some (1, .iadd, .iadd, []), some (1, .iaload, .iaload, []), some (1, .aload_n 0, .aload_n 0, []), some (2, .iload 4, .iload 4, []), 
  none, some (1, .iconst 2, .iconst 2, []), some (1, .iadd, .iadd, []), some (1, .iaload, .iaload, []), some (1, .aload_n 0, .aload_n 0, []), some (2, .iload 4, .iload 4, []), 
  none, some (1, .iconst 3, .iconst 3, []), some (1, .iadd, .iadd, []), some (1, .iaload, .iaload, []), some (3, .invokevirtual 68, .invokevirtual 83, [847, 848, 849]), 
  none, none, some (2, .istore 6, .istore 6, []), none, some (1, .aload_n 2, .aload_n 2, []), some (3, .invokevirtual 69, .invokevirtual 82, [843, 844, 845]), 
  none, none, some (2, .iload 5, .iload 5, []), none, some (3, .if_icmp .eq 5, .if_icmp .eq 184, []), none, none, some (1, .iconst 0, .iconst 0, []), some (1, .ireturn, .ireturn, []), 
  some (2, .iload 5, .iload 5, []), none, some (3, .ifCond .ne 15, .ifCond .ne 201, []), none, none, some (1, .aload_n 3, .aload_n 3, []), some (1, .iconst 0, .iconst 0, []), 
  some (1, .laload, .laload, []), some (2, .iload 6, .iload 6, []), none, some (1, .i2l, .i2l, []), some (1, .lcmp, .lcmp, []), some (3, .ifCond .eq 5, .ifCond .eq 201, []), 
  none, none, some (1, .iconst 0, .iconst 0, []), some (1, .ireturn, .ireturn, []), some (3, .goto 921, .goto 1122, []), none, none, some (1, .aload_n 1, .aload_n 1, []), 
  some (1, .aload_n 0, .aload_n 0, []), some (2, .iload 4, .iload 4, []), none, some (1, .iconst 1, .iconst 1, []), some (1, .iadd, .iadd, []), some (1, .iaload, .iaload, []), 
  some (1, .aload_n 0, .aload_n 0, []), some (2, .iload 4, .iload 4, []), none, some (1, .iconst 2, .iconst 2, []), some (1, .iadd, .iadd, []), some (1, .iaload, .iaload, []), 
  some (1, .aload_n 0, .aload_n 0, []), some (2, .iload 4, .iload 4, []), none, some (1, .iconst 3, .iconst 3, []), some (1, .iadd, .iadd, []), some (1, .iaload, .iaload, []), 
  some (1, .aload_n 0, .aload_n 0, []), some (2, .iload 4, .iload 4, []), none, some (1, .iconst 4, .iconst 4, []), some (1, .iadd, .iadd, []), some (1, .iaload, .iaload, []), 
  some (1, .aload_n 0, .aload_n 0, []), some (2, .iload 4, .iload 4, []), none, some (1, .iconst 5, .iconst 5, []), some (1, .iadd, .iadd, []), some (1, .iaload, .iaload, []), 
  some (3, .ifCond .eq 7, .ifCond .eq 242, []), none, none, some (1, .iconst 1, .iconst 1, []), some (3, .goto 4, .goto 243, []), none, none, some (1, .iconst 0, .iconst 0, []), 
  some (1, .aload_n 3, .aload_n 3, []), some (3, .invokestatic 73, .invokestatic 128, [465, 466]), none, none, some (2, .istore 5, .istore 5, []), none, 
  some (1, .aload_n 2, .aload_n 2, []), some (1, .aload_n 0, .aload_n 0, []), some (2, .iload 4, .iload 4, []), none, some (1, .iconst 1, .iconst 1, []), 
  some (1, .iadd, .iadd, []), some (1, .iaload, .iaload, []), some (1, .aload_n 0, .aload_n 0, []), some (2, .iload 4, .iload 4, []), none, some (1, .iconst 2, .iconst 2, []), 
  some (1, .iadd, .iadd, []), some (1, .iaload, .iaload, []), some (1, .aload_n 0, .aload_n 0, []), some (2, .iload 4, .iload 4, []), none, some (1, .iconst 3, .iconst 3, []), 
  some (1, .iadd, .iadd, []), some (1, .iaload, .iaload, []), some (1, .aload_n 0, .aload_n 0, []), some (2, .iload 4, .iload 4, []), none, some (1, .iconst 4, .iconst 4, []), 
  some (1, .iadd, .iadd, []), some (1, .iaload, .iaload, []), some (1, .aload_n 0, .aload_n 0, []), some (2, .iload 4, .iload 4, []), none, some (1, .iconst 5, .iconst 5, []), 
  some (1, .iadd, .iadd, []), some (1, .iaload, .iaload, []), some (3, .ifCond .eq 7, .ifCond .eq 287, []), none, none, some (1, .iconst 1, .iconst 1, []), 
  some (3, .goto 4, .goto 288, []), none, none, some (1, .iconst 0, .iconst 0, []), some (3, .invokevirtual 76, .invokevirtual 87, [862, 863, 864]), none, 
  none, some (2, .istore 6, .istore 6, []), none, some (1, .aload_n 2, .aload_n 2, []), some (3, .invokevirtual 69, .invokevirtual 82, [843, 844, 845]), 
  none, none, some (2, .iload 5, .iload 5, []), none, some (3, .if_icmp .eq 5, .if_icmp .eq 304, []), none, none, some (1, .iconst 0, .iconst 0, []), some (1, .ireturn, .ireturn, []), 
  some (2, .iload 5, .iload 5, []), none, some (3, .ifCond .ne 15, .ifCond .ne 321, []), none, none, some (1, .aload_n 3, .aload_n 3, []), some (1, .iconst 0, .iconst 0, []), 
  some (1, .laload, .laload, []), some (2, .iload 6, .iload 6, []), none, some (1, .i2l, .i2l, []), some (1, .lcmp, .lcmp, []), some (3, .ifCond .eq 5, .ifCond .eq 321, []), 
  none, none, some (1, .iconst 0, .iconst 0, []), some (1, .ireturn, .ireturn, []), some (3, .goto 801, .goto 1122, []), none, none, some (1, .aload_n 1, .aload_n 1, []), 
  some (1, .aload_n 0, .aload_n 0, []), some (2, .iload 4, .iload 4, []), none, some (1, .iconst 1, .iconst 1, []), some (1, .iadd, .iadd, []), some (1, .iaload, .iaload, []), 
  some (1, .aload_n 0, .aload_n 0, []), some (2, .iload 4, .iload 4, []), none, some (1, .iconst 2, .iconst 2, []), some (1, .iadd, .iadd, []), some (1, .iaload, .iaload, []), 
  some (1, .aload_n 0, .aload_n 0, []), some (2, .iload 4, .iload 4, []), none, some (1, .iconst 3, .iconst 3, []), some (1, .iadd, .iadd, []), some (1, .iaload, .iaload, []), 
  some (1, .aload_n 3, .aload_n 3, []), some (3, .invokestatic 77, .invokestatic 129, [502, 503]), none, none, some (2, .istore 5, .istore 5, []), none, 
  some (1, .aload_n 2, .aload_n 2, []), some (1, .aload_n 0, .aload_n 0, []), some (2, .iload 4, .iload 4, []), none, some (1, .iconst 1, .iconst 1, []), 
  some (1, .iadd, .iadd, []), some (1, .iaload, .iaload, []), some (1, .aload_n 0, .aload_n 0, []), some (2, .iload 4, .iload 4, []), none, some (1, .iconst 2, .iconst 2, []), 
  some (1, .iadd, .iadd, []), some (1, .iaload, .iaload, []), some (1, .aload_n 0, .aload_n 0, []), some (2, .iload 4, .iload 4, []), none, some (1, .iconst 3, .iconst 3, []), 
  some (1, .iadd, .iadd, []), some (1, .iaload, .iaload, []), some (3, .invokevirtual 79, .invokevirtual 88, [866, 867, 868]), none, none, some (2, .istore 6, .istore 6, []), 
  none, some (1, .aload_n 2, .aload_n 2, []), some (3, .invokevirtual 69, .invokevirtual 82, [843, 844, 845]), none, none, some (2, .iload 5, .iload 5, []), 
  none, some (3, .if_icmp .eq 5, .if_icmp .eq 384, []), none, none, some (1, .iconst 0, .iconst 0, []), some (1, .ireturn, .ireturn, []), some (2, .iload 5, .iload 5, []), 
  none, some (3, .ifCond .ne 15, .ifCond .ne 401, []), none, none, some (1, .aload_n 3, .aload_n 3, []), some (1, .iconst 0, .iconst 0, []), some (1, .laload, .laload, []), 
  some (2, .iload 6, .iload 6, []), none, some (1, .i2l, .i2l, []), some (1, .lcmp, .lcmp, []), some (3, .ifCond .eq 5, .ifCond .eq 401, []), none, none, 
  some (1, .iconst 0, .iconst 0, []), some (1, .ireturn, .ireturn, []), some (3, .goto 721, .goto 1122, []), none, none, some (1, .aload_n 1, .aload_n 1, []), 
  some (3, .invokevirtual 80, .invokevirtual 42, [218, 219, 220]), none, none, some (1, .aload_n 2, .aload_n 2, []), some (3, .invokevirtual 84, .invokevirtual 89, [870, 871, 872]), 
  none, none, some (3, .if_icmp .eq 710, .if_icmp .eq 1122, []), none, none, some (1, .iconst 0, .iconst 0, []), some (1, .ireturn, .ireturn, []), some (1, .aload_n 1, .aload_n 1, []), 
  some (3, .invokevirtual 85, .invokevirtual 61, [348, 349, 350]), none, none, some (1, .aload_n 2, .aload_n 2, []), some (3, .invokevirtual 88, .invokevirtual 110, [953, 954, 955]), 
  none, none, some (3, .if_icmp .eq 697, .if_icmp .eq 1122, []), none, none, some (1, .iconst 0, .iconst 0, []), some (1, .ireturn, .ireturn, []), some (1, .aload_n 1, .aload_n 1, []), 
  some (1, .aload_n 0, .aload_n 0, []), some (2, .iload 4, .iload 4, []), none, some (1, .iconst 1, .iconst 1, []), some (1, .iadd, .iadd, []), some (1, .iaload, .iaload, []), 
  some (1, .aload_n 3, .aload_n 3, []), some (3, .invokestatic 89, .invokestatic 130, [560, 561]), none, none, some (2, .istore 5, .istore 5, []), none, 
  some (1, .aload_n 2, .aload_n 2, []), some (1, .aload_n 0, .aload_n 0, []), some (2, .iload 4, .iload 4, []), none, some (1, .iconst 1, .iconst 1, []), 
  some (1, .iadd, .iadd, []), some (1, .iaload, .iaload, []), some (3, .invokevirtual 92, .invokevirtual 111, [957, 958, 959]), none, none, some (2, .istore 6, .istore 6, []), 
  none, some (1, .aload_n 2, .aload_n 2, []), some (3, .invokevirtual 69, .invokevirtual 82, [843, 844, 845]), none, none, some (2, .iload 5, .iload 5, []), 
  none, some (3, .if_icmp .eq 5, .if_icmp .eq 466, []), none, none, some (1, .iconst 0, .iconst 0, []), some (1, .ireturn, .ireturn, []), some (2, .iload 5, .iload 5, []), 
  none, some (3, .ifCond .ne 15, .ifCond .ne 483, []), none, none, some (1, .aload_n 3, .aload_n 3, []), some (1, .iconst 0, .iconst 0, []), some (1, .laload, .laload, []), 
  some (2, .iload 6, .iload 6, []), none, some (1, .i2l, .i2l, []), some (1, .lcmp, .lcmp, []), some (3, .ifCond .eq 5, .ifCond .eq 483, []), none, none, 
  some (1, .iconst 0, .iconst 0, []), some (1, .ireturn, .ireturn, []), some (3, .goto 639, .goto 1122, []), none, none, some (1, .aload_n 1, .aload_n 1, []), 
  some (1, .aload_n 0, .aload_n 0, []), some (2, .iload 4, .iload 4, []), none, some (1, .iconst 1, .iconst 1, []), some (1, .iadd, .iadd, []), some (1, .iaload, .iaload, []), 
  some (1, .aload_n 3, .aload_n 3, []), some (3, .invokestatic 93, .invokestatic 131, [576, 577]), none, none, some (2, .istore 5, .istore 5, []), none, 
  some (1, .aload_n 2, .aload_n 2, []), some (1, .aload_n 0, .aload_n 0, []), some (2, .iload 4, .iload 4, []), none, some (1, .iconst 1, .iconst 1, []), 
  some (1, .iadd, .iadd, []), some (1, .iaload, .iaload, []), some (3, .invokevirtual 95, .invokevirtual 114, [971, 972, 973]), none, none, some (2, .istore 6, .istore 6, []), 
  none, some (1, .aload_n 2, .aload_n 2, []), some (3, .invokevirtual 69, .invokevirtual 82, [843, 844, 845]), none, none, some (2, .iload 5, .iload 5, []), 
  none, some (3, .if_icmp .eq 5, .if_icmp .eq 522, []), none, none, some (1, .iconst 0, .iconst 0, []), some (1, .ireturn, .ireturn, []), some (2, .iload 5, .iload 5, []), 
  none, some (3, .ifCond .ne 15, .ifCond .ne 539, []), none, none, some (1, .aload_n 3, .aload_n 3, []), some (1, .iconst 0, .iconst 0, []), some (1, .laload, .laload, []), 
  some (2, .iload 6, .iload 6, []), none, some (1, .i2l, .i2l, []), some (1, .lcmp, .lcmp, []), some (3, .ifCond .eq 5, .ifCond .eq 539, []), none, none, 
  some (1, .iconst 0, .iconst 0, []), some (1, .ireturn, .ireturn, []), some (3, .goto 583, .goto 1122, []), none, none, some (1, .aload_n 1, .aload_n 1, []), 
  some (1, .aload_n 0, .aload_n 0, []), some (2, .iload 4, .iload 4, []), none, some (1, .iconst 1, .iconst 1, []), some (1, .iadd, .iadd, []), some (1, .iaload, .iaload, []), 
  some (1, .aload_n 0, .aload_n 0, []), some (2, .iload 4, .iload 4, []), none, some (1, .iconst 2, .iconst 2, []), some (1, .iadd, .iadd, []), some (1, .iaload, .iaload, []), 
  some (1, .aload_n 0, .aload_n 0, []), some (2, .iload 4, .iload 4, []), none, some (1, .iconst 3, .iconst 3, []), some (1, .iadd, .iadd, []), some (1, .iaload, .iaload, []), 
  some (1, .aload_n 3, .aload_n 3, []), some (3, .invokestatic 96, .invokestatic 132, [583, 584]), none, none, some (2, .istore 5, .istore 5, []), none, 
  some (1, .aload_n 2, .aload_n 2, []), some (1, .aload_n 0, .aload_n 0, []), some (2, .iload 4, .iload 4, []), none, some (1, .iconst 1, .iconst 1, []), 
  some (1, .iadd, .iadd, []), some (1, .iaload, .iaload, []), some (1, .aload_n 0, .aload_n 0, []), some (2, .iload 4, .iload 4, []), none, some (1, .iconst 2, .iconst 2, []), 
  some (1, .iadd, .iadd, []), some (1, .iaload, .iaload, []), some (1, .aload_n 0, .aload_n 0, []), some (2, .iload 4, .iload 4, []), none, some (1, .iconst 3, .iconst 3, []), 
  some (1, .iadd, .iadd, []), some (1, .iaload, .iaload, []), some (3, .invokevirtual 98, .invokevirtual 116, [979, 980, 981]), none, none, some (2, .istore 6, .istore 6, []), 
  none, some (1, .aload_n 2, .aload_n 2, []), some (3, .invokevirtual 69, .invokevirtual 82, [843, 844, 845]), none, none, some (2, .iload 5, .iload 5, []), 
  none, some (3, .if_icmp .eq 5, .if_icmp .eq 602, []), none, none, some (1, .iconst 0, .iconst 0, []), some (1, .ireturn, .ireturn, []), some (2, .iload 5, .iload 5, []), 
  none, some (3, .ifCond .ne 15, .ifCond .ne 619, []), none, none, some (1, .aload_n 3, .aload_n 3, []), some (1, .iconst 0, .iconst 0, []), some (1, .laload, .laload, []), 
  some (2, .iload 6, .iload 6, []), none, some (1, .i2l, .i2l, []), some (1, .lcmp, .lcmp, []), some (3, .ifCond .eq 5, .ifCond .eq 619, []), none, none, 
  some (1, .iconst 0, .iconst 0, []), some (1, .ireturn, .ireturn, []), some (3, .goto 503, .goto 1122, []), none, none, some (1, .aload_n 1, .aload_n 1, []), 
  some (1, .aload_n 0, .aload_n 0, []), some (2, .iload 4, .iload 4, []), none, some (1, .iconst 1, .iconst 1, []), some (1, .iadd, .iadd, []), some (1, .iaload, .iaload, []), 
  some (1, .aload_n 3, .aload_n 3, []), some (3, .invokestatic 99, .invokestatic 133, [670, 671]), none, none, some (2, .istore 5, .istore 5, []), none, 
  some (1, .aload_n 2, .aload_n 2, []), some (1, .aload_n 0, .aload_n 0, []), some (2, .iload 4, .iload 4, []), none, some (1, .iconst 1, .iconst 1, []), 
  some (1, .iadd, .iadd, []), some (1, .iaload, .iaload, []), some (3, .invokevirtual 101, .invokevirtual 118, [987, 988, 989]), none, none, some (2, .istore 6, .istore 6, []), 
  none, some (1, .aload_n 2, .aload_n 2, []), some (3, .invokevirtual 69, .invokevirtual 82, [843, 844, 845]), none, none, some (2, .iload 5, .iload 5, []), 
  none, some (3, .if_icmp .eq 5, .if_icmp .eq 658, []), none, none, some (1, .iconst 0, .iconst 0, []), some (1, .ireturn, .ireturn, []), some (2, .iload 5, .iload 5, []), 
  none, some (3, .ifCond .ne 22, .ifCond .ne 682, []), none, none, some (1, .aload_n 3, .aload_n 3, []), some (1, .iconst 0, .iconst 0, []), some (1, .laload, .laload, []), 
  some (2, .iload 6, .iload 6, []), none, some (3, .ifCond .eq 7, .ifCond .eq 675, []), none, none, some (1, .lconst 1, .lconst 1, []), some (3, .goto 4, .goto 676, []), 
  none, none, some (1, .lconst 0, .lconst 0, []), some (1, .lcmp, .lcmp, []), some (3, .ifCond .eq 5, .ifCond .eq 682, []), none, none, some (1, .iconst 0, .iconst 0, []), 
  some (1, .ireturn, .ireturn, []), some (3, .goto 440, .goto 1122, []), none, none, some (1, .aload_n 1, .aload_n 1, []), some (1, .aload_n 0, .aload_n 0, []), 
  some (2, .iload 4, .iload 4, []), none, some (1, .iconst 1, .iconst 1, []), some (1, .iadd, .iadd, []), some (1, .iaload, .iaload, []), some (1, .aload_n 3, .aload_n 3, []), 
  some (3, .invokestatic 102, .invokestatic 134, [685, 686]), none, none, some (2, .istore 5, .istore 5, []), none, some (1, .aload_n 2, .aload_n 2, []), 
  some (1, .aload_n 0, .aload_n 0, []), some (2, .iload 4, .iload 4, []), none, some (1, .iconst 1, .iconst 1, []), some (1, .iadd, .iadd, []), some (1, .iaload, .iaload, []), 
  some (3, .invokevirtual 104, .invokevirtual 119, [991, 992, 993]), none, none, some (2, .lstore 6, .lstore 6, []), none, some (1, .aload_n 2, .aload_n 2, []), 
  some (3, .invokevirtual 69, .invokevirtual 82, [843, 844, 845]), none, none, some (2, .iload 5, .iload 5, []), none, some (3, .if_icmp .eq 5, .if_icmp .eq 721, []), 
  none, none, some (1, .iconst 0, .iconst 0, []), some (1, .ireturn, .ireturn, []), some (2, .iload 5, .iload 5, []), none, some (3, .ifCond .ne 14, .ifCond .ne 737, []), 
  none, none, some (1, .aload_n 3, .aload_n 3, []), some (1, .iconst 0, .iconst 0, []), some (1, .laload, .laload, []), some (2, .lload 6, .lload 6, []), 
  none, some (1, .lcmp, .lcmp, []), some (3, .ifCond .eq 5, .ifCond .eq 737, []), none, none, some (1, .iconst 0, .iconst 0, []), some (1, .ireturn, .ireturn, []), 
  some (3, .goto 385, .goto 1122, []), none, none, some (1, .aload_n 1, .aload_n 1, []), some (1, .aload_n 0, .aload_n 0, []), some (2, .iload 4, .iload 4, []), 
  none, some (1, .iconst 1, .iconst 1, []), some (1, .iadd, .iadd, []), some (1, .iaload, .iaload, []), some (1, .aload_n 0, .aload_n 0, []), some (2, .iload 4, .iload 4, []), 
  none, some (1, .iconst 2, .iconst 2, []), some (1, .iadd, .iadd, []), some (1, .iaload, .iaload, []), some (1, .aload_n 3, .aload_n 3, []), some (3, .invokestatic 105, .invokestatic 135, [706, 707]), 
  none, none, some (2, .istore 5, .istore 5, []), none, some (1, .aload_n 2, .aload_n 2, []), some (1, .aload_n 0, .aload_n 0, []), some (2, .iload 4, .iload 4, []), 
  none, some (1, .iconst 1, .iconst 1, []), some (1, .iadd, .iadd, []), some (1, .iaload, .iaload, []), some (1, .aload_n 0, .aload_n 0, []), some (2, .iload 4, .iload 4, []), 
  none, some (1, .iconst 2, .iconst 2, []), some (1, .iadd, .iadd, []), some (1, .iaload, .iaload, []), some (3, .invokevirtual 108, .invokevirtual 120, [995, 996, 997]), 
  none, none, some (2, .istore 6, .istore 6, []), none, some (1, .aload_n 2, .aload_n 2, []), some (3, .invokevirtual 69, .invokevirtual 82, [843, 844, 845]), 
  none, none, some (2, .iload 5, .iload 5, []), none, some (3, .if_icmp .eq 5, .if_icmp .eq 788, []), none, none, some (1, .iconst 0, .iconst 0, []), some (1, .ireturn, .ireturn, []), 
  some (2, .iload 5, .iload 5, []), none, some (3, .ifCond .ne 15, .ifCond .ne 805, []), none, none, some (1, .aload_n 3, .aload_n 3, []), some (1, .iconst 0, .iconst 0, []), 
  some (1, .laload, .laload, []), some (2, .iload 6, .iload 6, []), none, some (1, .i2l, .i2l, []), some (1, .lcmp, .lcmp, []), some (3, .ifCond .eq 5, .ifCond .eq 805, []), 
  none, none, some (1, .iconst 0, .iconst 0, []), some (1, .ireturn, .ireturn, []), some (3, .goto 317, .goto 1122, []), none, none, some (1, .aload_n 1, .aload_n 1, []), 
  some (1, .aload_n 0, .aload_n 0, []), some (2, .iload 4, .iload 4, []), none, some (1, .iconst 1, .iconst 1, []), some (1, .iadd, .iadd, []), some (1, .iaload, .iaload, []), 
  some (1, .aload_n 0, .aload_n 0, []), some (2, .iload 4, .iload 4, []), none, some (1, .iconst 2, .iconst 2, []), some (1, .iadd, .iadd, []), some (1, .iaload, .iaload, []), 
  some (1, .aload_n 3, .aload_n 3, []), some (3, .invokestatic 109, .invokestatic 136, [713, 714]), none, none, some (2, .istore 5, .istore 5, []), none, 
  some (1, .aload_n 2, .aload_n 2, []), some (1, .aload_n 0, .aload_n 0, []), some (2, .iload 4, .iload 4, []), none, some (1, .iconst 1, .iconst 1, []), 
  some (1, .iadd, .iadd, []), some (1, .iaload, .iaload, []), some (1, .aload_n 0, .aload_n 0, []), some (2, .iload 4, .iload 4, []), none, some (1, .iconst 2, .iconst 2, []), 
  some (1, .iadd, .iadd, []), some (1, .iaload, .iaload, []), some (3, .invokevirtual 111, .invokevirtual 121, [999, 1000, 1001]), none, none, some (2, .istore 6, .istore 6, []), 
  none, some (1, .aload_n 2, .aload_n 2, []), some (3, .invokevirtual 69, .invokevirtual 82, [843, 844, 845]), none, none, some (2, .iload 5, .iload 5, []), 
  none, some (3, .if_icmp .eq 5, .if_icmp .eq 856, []), none, none, some (1, .iconst 0, .iconst 0, []), some (1, .ireturn, .ireturn, []), some (2, .iload 5, .iload 5, []), 
  none, some (3, .ifCond .ne 15, .ifCond .ne 873, []), none, none, some (1, .aload_n 3, .aload_n 3, []), some (1, .iconst 0, .iconst 0, []), some (1, .laload, .laload, []), 
  some (2, .iload 6, .iload 6, []), none, some (1, .i2l, .i2l, []), some (1, .lcmp, .lcmp, []), some (3, .ifCond .eq 5, .ifCond .eq 873, []), none, none, 
  some (1, .iconst 0, .iconst 0, []), some (1, .ireturn, .ireturn, []), some (3, .goto 249, .goto 1122, []), none, none, some (1, .aload_n 1, .aload_n 1, []), 
  some (1, .aload_n 0, .aload_n 0, []), some (2, .iload 4, .iload 4, []), none, some (1, .iconst 1, .iconst 1, []), some (1, .iadd, .iadd, []), some (1, .iaload, .iaload, []), 
  some (1, .aload_n 0, .aload_n 0, []), some (2, .iload 4, .iload 4, []), none, some (1, .iconst 2, .iconst 2, []), some (1, .iadd, .iadd, []), some (1, .iaload, .iaload, []), 
  some (3, .ifCond .eq 7, .ifCond .eq 896, []), none, none, some (1, .iconst 1, .iconst 1, []), some (3, .goto 4, .goto 897, []), none, none, some (1, .iconst 0, .iconst 0, []), 
  some (1, .aload_n 3, .aload_n 3, []), some (3, .invokestatic 112, .invokestatic 137, [720, 721]), none, none, some (2, .istore 5, .istore 5, []), none, 
  some (1, .aload_n 2, .aload_n 2, []), some (1, .aload_n 0, .aload_n 0, []), some (2, .iload 4, .iload 4, []), none, some (1, .iconst 1, .iconst 1, []), 
  some (1, .iadd, .iadd, []), some (1, .iaload, .iaload, []), some (1, .aload_n 0, .aload_n 0, []), some (2, .iload 4, .iload 4, []), none, some (1, .iconst 2, .iconst 2, []), 
  some (1, .iadd, .iadd, []), some (1, .iaload, .iaload, []), some (3, .ifCond .eq 7, .ifCond .eq 923, []), none, none, some (1, .iconst 1, .iconst 1, []), 
  some (3, .goto 4, .goto 924, []), none, none, some (1, .iconst 0, .iconst 0, []), some (3, .invokevirtual 115, .invokevirtual 122, [1003, 1004, 1005]), 
  none, none, some (2, .istore 6, .istore 6, []), none, some (1, .aload_n 2, .aload_n 2, []), some (3, .invokevirtual 69, .invokevirtual 82, [843, 844, 845]), 
  none, none, some (2, .iload 5, .iload 5, []), none, some (3, .if_icmp .eq 5, .if_icmp .eq 940, []), none, none, some (1, .iconst 0, .iconst 0, []), some (1, .ireturn, .ireturn, []), 
  some (2, .iload 5, .iload 5, []), none, some (3, .ifCond .ne 15, .ifCond .ne 957, []), none, none, some (1, .aload_n 3, .aload_n 3, []), some (1, .iconst 0, .iconst 0, []), 
  some (1, .laload, .laload, []), some (2, .iload 6, .iload 6, []), none, some (1, .i2l, .i2l, []), some (1, .lcmp, .lcmp, []), some (3, .ifCond .eq 5, .ifCond .eq 957, []), 
  none, none, some (1, .iconst 0, .iconst 0, []), some (1, .ireturn, .ireturn, []), some (3, .goto 165, .goto 1122, []), none, none, some (1, .aload_n 1, .aload_n 1, []), 
  some (1, .aload_n 0, .aload_n 0, []), some (2, .iload 4, .iload 4, []), none, some (1, .iconst 1, .iconst 1, []), some (1, .iadd, .iadd, []), some (1, .iaload, .iaload, []), 
  some (3, .invokevirtual 116, .invokevirtual 62, [353, 354, 355]), none, none, some (1, .aload_n 2, .aload_n 2, []), some (1, .aload_n 0, .aload_n 0, []), 
  some (2, .iload 4, .iload 4, []), none, some (1, .iconst 1, .iconst 1, []), some (1, .iadd, .iadd, []), some (1, .iaload, .iaload, []), some (3, .invokevirtual 119, .invokevirtual 123, [1007, 1008, 1009]), 
  none, none, some (3, .if_icmp .eq 142, .if_icmp .eq 1122, []), none, none, some (1, .iconst 0, .iconst 0, []), some (1, .ireturn, .ireturn, []), some (1, .aload_n 1, .aload_n 1, []), 
  some (1, .aload_n 0, .aload_n 0, []), some (2, .iload 4, .iload 4, []), none, some (1, .iconst 1, .iconst 1, []), some (1, .iadd, .iadd, []), some (1, .iaload, .iaload, []), 
  some (1, .aload_n 3, .aload_n 3, []), some (3, .invokestatic 120, .invokestatic 138, [727, 728]), none, none, some (2, .istore 5, .istore 5, []), none, 
  some (1, .aload_n 2, .aload_n 2, []), some (1, .aload_n 0, .aload_n 0, []), some (2, .iload 4, .iload 4, []), none, some (1, .iconst 1, .iconst 1, []), 
  some (1, .iadd, .iadd, []), some (1, .iaload, .iaload, []), some (3, .invokevirtual 122, .invokevirtual 124, [1011, 1012, 1013]), none, none, some (2, .istore 6, .istore 6, []), 
  none, some (1, .aload_n 2, .aload_n 2, []), some (3, .invokevirtual 69, .invokevirtual 82, [843, 844, 845]), none, none, some (2, .iload 5, .iload 5, []), 
  none, some (3, .if_icmp .eq 5, .if_icmp .eq 1021, []), none, none, some (1, .iconst 0, .iconst 0, []), some (1, .ireturn, .ireturn, []), some (2, .iload 5, .iload 5, []), 
  none, some (3, .ifCond .ne 15, .ifCond .ne 1038, []), none, none, some (1, .aload_n 3, .aload_n 3, []), some (1, .iconst 0, .iconst 0, []), some (1, .laload, .laload, []), 
  some (2, .iload 6, .iload 6, []), none, some (1, .i2l, .i2l, []), some (1, .lcmp, .lcmp, []), some (3, .ifCond .eq 5, .ifCond .eq 1038, []), none, none, 
  some (1, .iconst 0, .iconst 0, []), some (1, .ireturn, .ireturn, []), some (3, .goto 84, .goto 1122, []), none, none, some (1, .aload_n 1, .aload_n 1, []), 
  some (1, .aload_n 0, .aload_n 0, []), some (2, .iload 4, .iload 4, []), none, some (1, .iconst 1, .iconst 1, []), some (1, .iadd, .iadd, []), some (1, .iaload, .iaload, []), 
  some (1, .aload_n 0, .aload_n 0, []), some (2, .iload 4, .iload 4, []), none, some (1, .iconst 2, .iconst 2, []), some (1, .iadd, .iadd, []), some (1, .iaload, .iaload, []), 
  some (1, .aload_n 3, .aload_n 3, []), some (3, .invokestatic 123, .invokestatic 139, [734, 735]), none, none, some (2, .istore 5, .istore 5, []), none, 
  some (1, .aload_n 2, .aload_n 2, []), some (1, .aload_n 0, .aload_n 0, []), some (2, .iload 4, .iload 4, []), none, some (1, .iconst 1, .iconst 1, []), 
  some (1, .iadd, .iadd, []), some (1, .iaload, .iaload, []), some (1, .aload_n 0, .aload_n 0, []), some (2, .iload 4, .iload 4, []), none, some (1, .iconst 2, .iconst 2, []), 
  some (1, .iadd, .iadd, []), some (1, .iaload, .iaload, []), some (3, .invokevirtual 125, .invokevirtual 125, [1015, 1016, 1017]), none, none, some (2, .istore 6, .istore 6, []), 
  none, some (1, .aload_n 2, .aload_n 2, []), some (3, .invokevirtual 69, .invokevirtual 82, [843, 844, 845]), none, none, some (2, .iload 5, .iload 5, []), 
  none, some (3, .if_icmp .eq 5, .if_icmp .eq 1089, []), none, none, some (1, .iconst 0, .iconst 0, []), some (1, .ireturn, .ireturn, []), some (2, .iload 5, .iload 5, []), 
  none, some (3, .ifCond .ne 15, .ifCond .ne 1106, []), none, none, some (1, .aload_n 3, .aload_n 3, []), some (1, .iconst 0, .iconst 0, []), some (1, .laload, .laload, []), 
  some (2, .iload 6, .iload 6, []), none, some (1, .i2l, .i2l, []), some (1, .lcmp, .lcmp, []), some (3, .ifCond .eq 5, .ifCond .eq 1106, []), none, none, 
  some (1, .iconst 0, .iconst 0, []), some (1, .ireturn, .ireturn, []), some (3, .goto 16, .goto 1122, []), none, none, some (1, .aload_n 1, .aload_n 1, []), 
  some (3, .invokevirtual 126, .invokevirtual 63, [361, 362, 363]), none, none, some (1, .aload_n 2, .aload_n 2, []), some (3, .invokevirtual 129, .invokevirtual 126, [1019, 1020, 1021]), 
  none, none, some (3, .if_icmp .eq 5, .if_icmp .eq 1122, []), none, none, some (1, .iconst 0, .iconst 0, []), some (1, .ireturn, .ireturn, []), some (3, .iinc 4 6, .iinc 4 6, []), 
  none, none, some (3, .goto (-1102), .goto 23, []), none, none, some (1, .iconst 1, .iconst 1, []), some (1, .ireturn, .ireturn, [])])
def mt_ms : List mv_J := [mj_Ac_init, mj_Ab_init, mj_Al_init, mj_Al_size, mj_Al_add, mj_Al_add_5, mj_Al_grow, mj_Al_grow_7, mj_Al_get, mj_Al_elementData, mj_As_copyOf, mj_As_copyOf_11, mj_Ob_checkIndex, mj_Ma_max, mj_Ma_min, mj_Su_newLength, mj_Pr_checkIndex, mj_Rq_init, mj_Ty_sumOfSizes, mj_Ty_init, mj_Ty_sizeOf, mj_Ty_rankOf, mj_Br_init, mj_Br_isClosed, mj_Br_isAtOrBelow, mj_Br_sumToLay, mj_Br_isSlotEmpty, mj_Ca_takeOut, mj_Ca_isThere, mj_Ca_holds, mj_Ca_init, mj_Ca_loseFrom, mj_Ca_doPiece, mj_Ca_finishFirst, mj_St_init, mj_St_gather, mj_St_add, mj_St_addRanges, mj_St_become, mj_St_placeFor, mj_St_isFree, mj_PT_init, mj_PT_step, mj_PT_dismissLeaving, mj_PT_examine, mj_PT_exceedsPower, mj_PT_powerUsed, mj_PT_refuse, mj_PT_fits, mj_PT_grows, mj_PT_growsFrom, mj_PT_settleIn, mj_PT_canAllPause, mj_PT_measureBlocks, mj_PT_blockFor, mj_PT_turnAll, mj_PT_isSomeRequestStarted, mj_PT_moveAll, mj_PT_layOut, mj_PT_layRanges, mj_PT_layBlock, mj_PT_settle, mj_PT_decode, mj_PT_moved, mj_PT_bridge, mj_PT_bridgeNumbered, mj_PT_requireWithin, mj_PT_requireSlot, mj_PT_type, mj_PT_plug, mj_PT_pull, mj_PT_cardNumbered, mj_PT_leave, mj_PT_request, mj_PT_work, mj_PT_result, mj_PT_card, mj_PT_range, mj_PT_opening, mj_PT_power, mj_PT_slot, mj_Mo_init, mj_Mo_thrown, mj_Mo_bridge, mj_Mo_isBridge, mj_Mo_within, mj_Mo_depthOf, mj_Mo_type, mj_Mo_plug, mj_Mo_step, mj_Mo_goOn, mj_Mo_remove, mj_Mo_check, mj_Mo_powerOf, mj_Mo_isThere, mj_Mo_hangsUnder, mj_Mo_refuse, mj_Mo_fits, mj_Mo_lookAt, mj_Mo_mark, mj_Mo_sizeOf, mj_Mo_placeFor, mj_Mo_grows, mj_Mo_growsFrom, mj_Mo_isFree, mj_Mo_measure, mj_Mo_laidBy, mj_Mo_change, mj_Mo_moveAll, mj_Mo_plan, mj_Mo_settle, mj_Mo_pull, mj_Mo_isCard, mj_Mo_lose, mj_Mo_leave, mj_Mo_firstOf, mj_Mo_request, mj_Mo_waiting, mj_Mo_work, mj_Mo_result, mj_Mo_card, mj_Mo_range, mj_Mo_opening, mj_Mo_decode, mj_Mo_power, mj_Mo_slot, mj_Mo_moved, mj_Lw_bridge, mj_Lw_type, mj_Lw_plug, mj_Lw_pull, mj_Lw_leave, mj_Lw_request, mj_Lw_work, mj_Lw_result, mj_Lw_card, mj_Lw_range, mj_Lw_opening, mj_Lw_power, mj_Lw_slot, mj_Lw_law]
def mt_tb : List Cond := lw_tbl ++ [Cond.code x code maxLocals ret]
