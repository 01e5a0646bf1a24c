set_option maxRecDepth 100000 in
theorem wd_0 : am_wok (false, (Jvm.Cond.selects "OrderMerge" ({ cls := "OrderMerge", name := "putBytes", desc := "(I)V" } : Jvm.MethodName) ({ cls := "OrderMerge", name := "putBytes", desc := "(I)V" } : Jvm.MethodName))) := wd_p (List.mem_of_getElem? (i := 0) rfl) rfl
set_option maxRecDepth 100000 in
theorem wd_1 : am_wok (false, (Jvm.Cond.selects "OrderMerge$Reader" ({ cls := "OrderMerge$Reader", name := "splitText", desc := "()V" } : Jvm.MethodName) ({ cls := "OrderMerge$Reader", name := "splitText", desc := "()V" } : Jvm.MethodName))) := wd_p (List.mem_of_getElem? (i := 1) rfl) rfl
set_option maxRecDepth 100000 in
theorem wd_2 : am_wok (false, (Jvm.Cond.selects "OrderMerge$Reader" ({ cls := "OrderMerge$Reader", name := "tokenEnd", desc := "(I)I" } : Jvm.MethodName) ({ cls := "OrderMerge$Reader", name := "tokenEnd", desc := "(I)I" } : Jvm.MethodName))) := wd_p (List.mem_of_getElem? (i := 2) rfl) rfl
set_option maxRecDepth 100000 in
theorem wd_3 : am_wok (false, (Jvm.Cond.selects "OrderMerge$Reader" ({ cls := "OrderMerge$Reader", name := "byteAt", desc := "(I)I" } : Jvm.MethodName) ({ cls := "OrderMerge$Reader", name := "byteAt", desc := "(I)I" } : Jvm.MethodName))) := wd_p (List.mem_of_getElem? (i := 3) rfl) rfl
set_option maxRecDepth 100000 in
theorem wd_4 : am_wok (false, (Jvm.Cond.selects "OrderMerge$Reader" ({ cls := "OrderMerge$Reader", name := "tokenOf", desc := "(II)I" } : Jvm.MethodName) ({ cls := "OrderMerge$Reader", name := "tokenOf", desc := "(II)I" } : Jvm.MethodName))) := wd_p (List.mem_of_getElem? (i := 4) rfl) rfl
set_option maxRecDepth 100000 in
theorem wd_5 : am_wok (false, (Jvm.Cond.selects "OrderMerge$Reader" ({ cls := "OrderMerge$Reader", name := "wordToken", desc := "(II)I" } : Jvm.MethodName) ({ cls := "OrderMerge$Reader", name := "wordToken", desc := "(II)I" } : Jvm.MethodName))) := wd_p (List.mem_of_getElem? (i := 5) rfl) rfl
set_option maxRecDepth 100000 in
theorem wd_6 : am_wok (false, (Jvm.Cond.selects "OrderMerge$Reader" ({ cls := "OrderMerge$Reader", name := "isWord", desc := "(III)Z" } : Jvm.MethodName) ({ cls := "OrderMerge$Reader", name := "isWord", desc := "(III)Z" } : Jvm.MethodName))) := wd_p (List.mem_of_getElem? (i := 6) rfl) rfl
set_option maxRecDepth 100000 in
theorem wd_7 : am_wok (false, (Jvm.Cond.selects "OrderMerge$Reader" ({ cls := "OrderMerge$Reader", name := "numberToken", desc := "(II)I" } : Jvm.MethodName) ({ cls := "OrderMerge$Reader", name := "numberToken", desc := "(II)I" } : Jvm.MethodName))) := wd_p (List.mem_of_getElem? (i := 7) rfl) rfl
set_option maxRecDepth 100000 in
theorem wd_8 : am_wok (false, (Jvm.Cond.selects "OrderMerge$Reader" ({ cls := "OrderMerge$Reader", name := "step", desc := "()V" } : Jvm.MethodName) ({ cls := "OrderMerge$Reader", name := "step", desc := "()V" } : Jvm.MethodName))) := wd_p (List.mem_of_getElem? (i := 8) rfl) rfl
set_option maxRecDepth 100000 in
theorem wd_9 : am_wok (false, (Jvm.Cond.selects "OrderMerge$Reader" ({ cls := "OrderMerge$Reader", name := "readHouse", desc := "()Z" } : Jvm.MethodName) ({ cls := "OrderMerge$Reader", name := "readHouse", desc := "()Z" } : Jvm.MethodName))) := wd_p (List.mem_of_getElem? (i := 9) rfl) rfl
set_option maxRecDepth 100000 in
theorem wd_10 : am_wok (false, (Jvm.Cond.selects "OrderMerge$Reader" ({ cls := "OrderMerge$Reader", name := "pass", desc := "(I)Z" } : Jvm.MethodName) ({ cls := "OrderMerge$Reader", name := "pass", desc := "(I)Z" } : Jvm.MethodName))) := wd_p (List.mem_of_getElem? (i := 10) rfl) rfl
set_option maxRecDepth 100000 in
theorem wd_11 : am_wok (false, (Jvm.Cond.selects "OrderMerge$Reader" ({ cls := "OrderMerge$Reader", name := "refuse", desc := "(I)Z" } : Jvm.MethodName) ({ cls := "OrderMerge$Reader", name := "refuse", desc := "(I)Z" } : Jvm.MethodName))) := wd_p (List.mem_of_getElem? (i := 11) rfl) rfl
set_option maxRecDepth 100000 in
theorem wd_12 : am_wok (false, (Jvm.Cond.selects "OrderMerge$Reader" ({ cls := "OrderMerge$Reader", name := "passNumberBelow", desc := "(I)Z" } : Jvm.MethodName) ({ cls := "OrderMerge$Reader", name := "passNumberBelow", desc := "(I)Z" } : Jvm.MethodName))) := wd_p (List.mem_of_getElem? (i := 12) rfl) rfl
set_option maxRecDepth 100000 in
theorem wd_13 : am_wok (false, (Jvm.Cond.selects "OrderMerge$Reader" ({ cls := "OrderMerge$Reader", name := "isNumber", desc := "()Z" } : Jvm.MethodName) ({ cls := "OrderMerge$Reader", name := "isNumber", desc := "()Z" } : Jvm.MethodName))) := wd_p (List.mem_of_getElem? (i := 13) rfl) rfl
set_option maxRecDepth 100000 in
theorem wd_14 : am_wok (false, (Jvm.Cond.selects "OrderMerge$Reader" ({ cls := "OrderMerge$Reader", name := "endLine", desc := "()Z" } : Jvm.MethodName) ({ cls := "OrderMerge$Reader", name := "endLine", desc := "()Z" } : Jvm.MethodName))) := wd_p (List.mem_of_getElem? (i := 14) rfl) rfl
set_option maxRecDepth 100000 in
theorem wd_15 : am_wok (false, (Jvm.Cond.selects "OrderMerge$Reader" ({ cls := "OrderMerge$Reader", name := "readLine", desc := "()Z" } : Jvm.MethodName) ({ cls := "OrderMerge$Reader", name := "readLine", desc := "()Z" } : Jvm.MethodName))) := wd_p (List.mem_of_getElem? (i := 15) rfl) rfl
set_option maxRecDepth 100000 in
theorem wd_16 : am_wok (false, (Jvm.Cond.selects "OrderMerge$Reader" ({ cls := "OrderMerge$Reader", name := "readClass", desc := "()Z" } : Jvm.MethodName) ({ cls := "OrderMerge$Reader", name := "readClass", desc := "()Z" } : Jvm.MethodName))) := wd_p (List.mem_of_getElem? (i := 16) rfl) rfl
set_option maxRecDepth 100000 in
theorem wd_17 : am_wok (false, (Jvm.Cond.selects "OrderMerge$Reader" ({ cls := "OrderMerge$Reader", name := "readMethod", desc := "()Z" } : Jvm.MethodName) ({ cls := "OrderMerge$Reader", name := "readMethod", desc := "()Z" } : Jvm.MethodName))) := wd_p (List.mem_of_getElem? (i := 17) rfl) rfl
set_option maxRecDepth 100000 in
theorem wd_18 : am_wok (false, (Jvm.Cond.selects "OrderMerge$Reader" ({ cls := "OrderMerge$Reader", name := "readLaw", desc := "()Z" } : Jvm.MethodName) ({ cls := "OrderMerge$Reader", name := "readLaw", desc := "()Z" } : Jvm.MethodName))) := wd_p (List.mem_of_getElem? (i := 18) rfl) rfl
set_option maxRecDepth 100000 in
theorem wd_19 : am_wok (false, (Jvm.Cond.selects "OrderMerge$Reader" ({ cls := "OrderMerge$Reader", name := "readSum", desc := "()Z" } : Jvm.MethodName) ({ cls := "OrderMerge$Reader", name := "readSum", desc := "()Z" } : Jvm.MethodName))) := wd_p (List.mem_of_getElem? (i := 19) rfl) rfl
set_option maxRecDepth 100000 in
theorem wd_20 : am_wok (false, (Jvm.Cond.selects "OrderMerge$Reader" ({ cls := "OrderMerge$Reader", name := "readTerm", desc := "()Z" } : Jvm.MethodName) ({ cls := "OrderMerge$Reader", name := "readTerm", desc := "()Z" } : Jvm.MethodName))) := wd_p (List.mem_of_getElem? (i := 20) rfl) rfl
set_option maxRecDepth 100000 in
theorem wd_21 : am_wok (false, (Jvm.Cond.selects "OrderMerge$Reader" ({ cls := "OrderMerge$Reader", name := "readAtom", desc := "()Z" } : Jvm.MethodName) ({ cls := "OrderMerge$Reader", name := "readAtom", desc := "()Z" } : Jvm.MethodName))) := wd_p (List.mem_of_getElem? (i := 21) rfl) rfl
set_option maxRecDepth 100000 in
theorem wd_22 : am_wok (false, (Jvm.Cond.selects "OrderMerge$Reader" ({ cls := "OrderMerge$Reader", name := "emit", desc := "(I)V" } : Jvm.MethodName) ({ cls := "OrderMerge$Reader", name := "emit", desc := "(I)V" } : Jvm.MethodName))) := wd_p (List.mem_of_getElem? (i := 22) rfl) rfl
set_option maxRecDepth 100000 in
theorem wd_23 : am_wok (false, (Jvm.Cond.selects "OrderMerge$Reader" ({ cls := "OrderMerge$Reader", name := "enter", desc := "()Z" } : Jvm.MethodName) ({ cls := "OrderMerge$Reader", name := "enter", desc := "()Z" } : Jvm.MethodName))) := wd_p (List.mem_of_getElem? (i := 23) rfl) rfl
set_option maxRecDepth 100000 in
theorem wd_24 : am_wok (false, (Jvm.Cond.selects "OrderMerge$Reader" ({ cls := "OrderMerge$Reader", name := "leave", desc := "()Z" } : Jvm.MethodName) ({ cls := "OrderMerge$Reader", name := "leave", desc := "()Z" } : Jvm.MethodName))) := wd_p (List.mem_of_getElem? (i := 24) rfl) rfl
set_option maxRecDepth 100000 in
theorem wd_25 : am_wok (false, (Jvm.Cond.selects "OrderMerge$Reader" ({ cls := "OrderMerge$Reader", name := "readChoice", desc := "()Z" } : Jvm.MethodName) ({ cls := "OrderMerge$Reader", name := "readChoice", desc := "()Z" } : Jvm.MethodName))) := wd_p (List.mem_of_getElem? (i := 25) rfl) rfl
set_option maxRecDepth 100000 in
theorem wd_26 : am_wok (false, (Jvm.Cond.selects "OrderMerge$Reader" ({ cls := "OrderMerge$Reader", name := "readTruth", desc := "()Z" } : Jvm.MethodName) ({ cls := "OrderMerge$Reader", name := "readTruth", desc := "()Z" } : Jvm.MethodName))) := wd_p (List.mem_of_getElem? (i := 26) rfl) rfl
set_option maxRecDepth 100000 in
theorem wd_27 : am_wok (false, (Jvm.Cond.selects "OrderMerge$Reader" ({ cls := "OrderMerge$Reader", name := "readBoth", desc := "()Z" } : Jvm.MethodName) ({ cls := "OrderMerge$Reader", name := "readBoth", desc := "()Z" } : Jvm.MethodName))) := wd_p (List.mem_of_getElem? (i := 27) rfl) rfl
set_option maxRecDepth 100000 in
theorem wd_28 : am_wok (false, (Jvm.Cond.selects "OrderMerge$Reader" ({ cls := "OrderMerge$Reader", name := "readUnit", desc := "()Z" } : Jvm.MethodName) ({ cls := "OrderMerge$Reader", name := "readUnit", desc := "()Z" } : Jvm.MethodName))) := wd_p (List.mem_of_getElem? (i := 28) rfl) rfl
set_option maxRecDepth 100000 in
theorem wd_29 : am_wok (false, (Jvm.Cond.selects "OrderMerge$Reader" ({ cls := "OrderMerge$Reader", name := "readComparison", desc := "()Z" } : Jvm.MethodName) ({ cls := "OrderMerge$Reader", name := "readComparison", desc := "()Z" } : Jvm.MethodName))) := wd_p (List.mem_of_getElem? (i := 29) rfl) rfl
set_option maxRecDepth 100000 in
theorem wd_30 : am_wok (false, (Jvm.Cond.selects "OrderMerge$Reader" ({ cls := "OrderMerge$Reader", name := "readName", desc := "()Z" } : Jvm.MethodName) ({ cls := "OrderMerge$Reader", name := "readName", desc := "()Z" } : Jvm.MethodName))) := wd_p (List.mem_of_getElem? (i := 30) rfl) rfl
set_option maxRecDepth 100000 in
theorem wd_31 : am_wok (false, (Jvm.Cond.selects "OrderMerge" ({ cls := "OrderMerge", name := "settleAgain", desc := "()V" } : Jvm.MethodName) ({ cls := "OrderMerge", name := "settleAgain", desc := "()V" } : Jvm.MethodName))) := wd_p (List.mem_of_getElem? (i := 31) rfl) rfl
set_option maxRecDepth 100000 in
theorem wd_32 : am_wok (false, (Jvm.Cond.selects "OrderMerge$Orders" ({ cls := "OrderMerge$Orders", name := "layRows", desc := "([II)V" } : Jvm.MethodName) ({ cls := "OrderMerge$Orders", name := "layRows", desc := "([II)V" } : Jvm.MethodName))) := wd_p (List.mem_of_getElem? (i := 32) rfl) rfl
set_option maxRecDepth 100000 in
theorem wd_33 : am_wok (false, (Jvm.Cond.selects "OrderMerge$Orders" ({ cls := "OrderMerge$Orders", name := "firstFree", desc := "(I)I" } : Jvm.MethodName) ({ cls := "OrderMerge$Orders", name := "firstFree", desc := "(I)I" } : Jvm.MethodName))) := wd_p (List.mem_of_getElem? (i := 33) rfl) rfl
set_option maxRecDepth 100000 in
theorem wd_34 : am_wok (false, (Jvm.Cond.selects "OrderMerge$Orders" ({ cls := "OrderMerge$Orders", name := "takeFromAll", desc := "(II)V" } : Jvm.MethodName) ({ cls := "OrderMerge$Orders", name := "takeFromAll", desc := "(II)V" } : Jvm.MethodName))) := wd_p (List.mem_of_getElem? (i := 34) rfl) rfl
set_option maxRecDepth 100000 in
theorem wd_35 : am_wok (false, (Jvm.Cond.selects "OrderMerge$Orders" ({ cls := "OrderMerge$Orders", name := "isAllTaken", desc := "(I)Z" } : Jvm.MethodName) ({ cls := "OrderMerge$Orders", name := "isAllTaken", desc := "(I)Z" } : Jvm.MethodName))) := wd_p (List.mem_of_getElem? (i := 35) rfl) rfl
set_option maxRecDepth 100000 in
theorem wd_36 : am_wok (false, (Jvm.Cond.selects "OrderMerge" ({ cls := "OrderMerge", name := "keptState", desc := "(II)I" } : Jvm.MethodName) ({ cls := "OrderMerge", name := "keptState", desc := "(II)I" } : Jvm.MethodName))) := wd_p (List.mem_of_getElem? (i := 36) rfl) rfl
set_option maxRecDepth 100000 in
theorem wd_37 : am_wok (false, (Jvm.Cond.selects "OrderMerge" ({ cls := "OrderMerge", name := "keepTrial", desc := "()V" } : Jvm.MethodName) ({ cls := "OrderMerge", name := "keepTrial", desc := "()V" } : Jvm.MethodName))) := wd_p (List.mem_of_getElem? (i := 37) rfl) rfl
set_option maxRecDepth 100000 in
theorem wd_38 : am_wok (false, (Jvm.Cond.selects "OrderMerge" ({ cls := "OrderMerge", name := "tryDeeds", desc := "(LOrderMerge$Tray;)I" } : Jvm.MethodName) ({ cls := "OrderMerge", name := "tryDeeds", desc := "(LOrderMerge$Tray;)I" } : Jvm.MethodName))) := wd_p (List.mem_of_getElem? (i := 38) rfl) rfl
set_option maxRecDepth 100000 in
theorem wd_39 : am_wok (false, (Jvm.Cond.selects "OrderMerge" ({ cls := "OrderMerge", name := "trayCode", desc := "(I)I" } : Jvm.MethodName) ({ cls := "OrderMerge", name := "trayCode", desc := "(I)I" } : Jvm.MethodName))) := wd_p (List.mem_of_getElem? (i := 39) rfl) rfl
set_option maxRecDepth 100000 in
theorem wd_40 : am_wok (false, (Jvm.Cond.selects "OrderMerge" ({ cls := "OrderMerge", name := "demandsCode", desc := "(I)I" } : Jvm.MethodName) ({ cls := "OrderMerge", name := "demandsCode", desc := "(I)I" } : Jvm.MethodName))) := wd_p (List.mem_of_getElem? (i := 40) rfl) rfl
set_option maxRecDepth 100000 in
theorem wd_41 : am_wok (false, (Jvm.Cond.selects "OrderMerge$Demands" ({ cls := "OrderMerge$Demands", name := "add", desc := "(II)V" } : Jvm.MethodName) ({ cls := "OrderMerge$Demands", name := "add", desc := "(II)V" } : Jvm.MethodName))) := wd_p (List.mem_of_getElem? (i := 41) rfl) rfl
set_option maxRecDepth 100000 in
theorem wd_42 : am_wok (false, (Jvm.Cond.selects "OrderMerge$Demands" ({ cls := "OrderMerge$Demands", name := "addOrderOf", desc := "(I)V" } : Jvm.MethodName) ({ cls := "OrderMerge$Demands", name := "addOrderOf", desc := "(I)V" } : Jvm.MethodName))) := wd_p (List.mem_of_getElem? (i := 42) rfl) rfl
set_option maxRecDepth 100000 in
theorem wd_43 : am_wok (false, (Jvm.Cond.selects "OrderMerge$Demands" ({ cls := "OrderMerge$Demands", name := "measure", desc := "()V" } : Jvm.MethodName) ({ cls := "OrderMerge$Demands", name := "measure", desc := "()V" } : Jvm.MethodName))) := wd_p (List.mem_of_getElem? (i := 43) rfl) rfl
set_option maxRecDepth 100000 in
theorem wd_44 : am_wok (false, (Jvm.Cond.selects "OrderMerge$Demands" ({ cls := "OrderMerge$Demands", name := "distance", desc := "(II)I" } : Jvm.MethodName) ({ cls := "OrderMerge$Demands", name := "distance", desc := "(II)I" } : Jvm.MethodName))) := wd_p (List.mem_of_getElem? (i := 44) rfl) rfl
set_option maxRecDepth 100000 in
theorem wd_45 : am_wok (false, (Jvm.Cond.selects "OrderMerge$Demands" ({ cls := "OrderMerge$Demands", name := "startOfRing", desc := "()I" } : Jvm.MethodName) ({ cls := "OrderMerge$Demands", name := "startOfRing", desc := "()I" } : Jvm.MethodName))) := wd_p (List.mem_of_getElem? (i := 45) rfl) rfl
set_option maxRecDepth 100000 in
theorem wd_46 : am_wok (false, (Jvm.Cond.selects "OrderMerge$Demands" ({ cls := "OrderMerge$Demands", name := "nextOfRing", desc := "(III)I" } : Jvm.MethodName) ({ cls := "OrderMerge$Demands", name := "nextOfRing", desc := "(III)I" } : Jvm.MethodName))) := wd_p (List.mem_of_getElem? (i := 46) rfl) rfl
set_option maxRecDepth 100000 in
theorem wd_47 : am_wok (false, (Jvm.Cond.selects "OrderMerge$Demands" ({ cls := "OrderMerge$Demands", name := "endingsBehind", desc := "(II)I" } : Jvm.MethodName) ({ cls := "OrderMerge$Demands", name := "endingsBehind", desc := "(II)I" } : Jvm.MethodName))) := wd_p (List.mem_of_getElem? (i := 47) rfl) rfl
set_option maxRecDepth 100000 in
theorem wd_48 : am_wok (false, (Jvm.Cond.selects "OrderMerge$OldOrders" ({ cls := "OrderMerge$OldOrders", name := "append", desc := "(II)V" } : Jvm.MethodName) ({ cls := "OrderMerge$OldOrders", name := "append", desc := "(II)V" } : Jvm.MethodName))) := wd_p (List.mem_of_getElem? (i := 48) rfl) rfl
set_option maxRecDepth 100000 in
theorem wd_49 : am_wok (false, (Jvm.Cond.selects "OrderMerge$OldOrders" ({ cls := "OrderMerge$OldOrders", name := "appendByDepth", desc := "(LOrderMerge$Facts;I)V" } : Jvm.MethodName) ({ cls := "OrderMerge$OldOrders", name := "appendByDepth", desc := "(LOrderMerge$Facts;I)V" } : Jvm.MethodName))) := wd_p (List.mem_of_getElem? (i := 49) rfl) rfl
set_option maxRecDepth 100000 in
theorem wd_50 : am_wok (false, (Jvm.Cond.selects "OrderMerge$OldOrders" ({ cls := "OrderMerge$OldOrders", name := "appendLastOnes", desc := "(LOrderMerge$Facts;I)V" } : Jvm.MethodName) ({ cls := "OrderMerge$OldOrders", name := "appendLastOnes", desc := "(LOrderMerge$Facts;I)V" } : Jvm.MethodName))) := wd_p (List.mem_of_getElem? (i := 50) rfl) rfl
set_option maxRecDepth 100000 in
theorem wd_51 : am_wok (false, (Jvm.Cond.selects "OrderMerge$OldOrders" ({ cls := "OrderMerge$OldOrders", name := "appendByBreadth", desc := "(LOrderMerge$Facts;I)V" } : Jvm.MethodName) ({ cls := "OrderMerge$OldOrders", name := "appendByBreadth", desc := "(LOrderMerge$Facts;I)V" } : Jvm.MethodName))) := wd_p (List.mem_of_getElem? (i := 51) rfl) rfl
set_option maxRecDepth 100000 in
theorem wd_52 : am_wok (false, (Jvm.Cond.selects "OrderMerge" ({ cls := "OrderMerge", name := "isOldOrder", desc := "(I)Z" } : Jvm.MethodName) ({ cls := "OrderMerge", name := "isOldOrder", desc := "(I)Z" } : Jvm.MethodName))) := wd_p (List.mem_of_getElem? (i := 52) rfl) rfl
set_option maxRecDepth 100000 in
theorem wd_53 : am_wok (false, (Jvm.Cond.selects "OrderMerge$Voice" ({ cls := "OrderMerge$Voice", name := "run", desc := "([I)I" } : Jvm.MethodName) ({ cls := "OrderMerge$Voice", name := "run", desc := "([I)I" } : Jvm.MethodName))) := wd_p (List.mem_of_getElem? (i := 53) rfl) rfl
set_option maxRecDepth 100000 in
theorem wd_54 : am_wok (false, (Jvm.Cond.selects "OrderMerge$Voice" ({ cls := "OrderMerge$Voice", name := "push", desc := "(I)V" } : Jvm.MethodName) ({ cls := "OrderMerge$Voice", name := "push", desc := "(I)V" } : Jvm.MethodName))) := wd_p (List.mem_of_getElem? (i := 54) rfl) rfl
set_option maxRecDepth 100000 in
theorem wd_55 : am_wok (false, (Jvm.Cond.selects "OrderMerge$Voice" ({ cls := "OrderMerge$Voice", name := "work", desc := "(I)V" } : Jvm.MethodName) ({ cls := "OrderMerge$Voice", name := "work", desc := "(I)V" } : Jvm.MethodName))) := wd_p (List.mem_of_getElem? (i := 55) rfl) rfl
set_option maxRecDepth 100000 in
theorem wd_56 : am_wok (false, (Jvm.Cond.selects "OrderMerge$Voice" ({ cls := "OrderMerge$Voice", name := "pop", desc := "()I" } : Jvm.MethodName) ({ cls := "OrderMerge$Voice", name := "pop", desc := "()I" } : Jvm.MethodName))) := wd_p (List.mem_of_getElem? (i := 56) rfl) rfl
set_option maxRecDepth 100000 in
theorem wd_57 : am_wok (false, (Jvm.Cond.selects "OrderMerge" ({ cls := "OrderMerge", name := "wouldCode", desc := "(I)I" } : Jvm.MethodName) ({ cls := "OrderMerge", name := "wouldCode", desc := "(I)I" } : Jvm.MethodName))) := wd_p (List.mem_of_getElem? (i := 57) rfl) rfl
set_option maxRecDepth 100000 in
theorem wd_58 : am_wok (false, (Jvm.Cond.selects "OrderMerge" ({ cls := "OrderMerge", name := "turnTold", desc := "(II)Z" } : Jvm.MethodName) ({ cls := "OrderMerge", name := "turnTold", desc := "(II)Z" } : Jvm.MethodName))) := wd_p (List.mem_of_getElem? (i := 58) rfl) rfl
set_option maxRecDepth 100000 in
theorem wd_59 : am_wok (false, (Jvm.Cond.selects "OrderMerge$Mender" ({ cls := "OrderMerge$Mender", name := "mendFrom", desc := "(LOrderMerge$Facts;II)Z" } : Jvm.MethodName) ({ cls := "OrderMerge$Mender", name := "mendFrom", desc := "(LOrderMerge$Facts;II)Z" } : Jvm.MethodName))) := wd_p (List.mem_of_getElem? (i := 59) rfl) rfl
set_option maxRecDepth 100000 in
theorem wd_60 : am_wok (false, (Jvm.Cond.selects "OrderMerge$Mender" ({ cls := "OrderMerge$Mender", name := "noteLinks", desc := "(LOrderMerge$Facts;)V" } : Jvm.MethodName) ({ cls := "OrderMerge$Mender", name := "noteLinks", desc := "(LOrderMerge$Facts;)V" } : Jvm.MethodName))) := wd_p (List.mem_of_getElem? (i := 60) rfl) rfl
set_option maxRecDepth 100000 in
theorem wd_61 : am_wok (false, (Jvm.Cond.selects "OrderMerge" ({ cls := "OrderMerge", name := "toldCode", desc := "(I)I" } : Jvm.MethodName) ({ cls := "OrderMerge", name := "toldCode", desc := "(I)I" } : Jvm.MethodName))) := wd_p (List.mem_of_getElem? (i := 61) rfl) rfl
set_option maxRecDepth 100000 in
theorem wd_62 : am_wok (false, (Jvm.Cond.selects "OrderMerge" ({ cls := "OrderMerge", name := "canBeTold", desc := "(J)Z" } : Jvm.MethodName) ({ cls := "OrderMerge", name := "canBeTold", desc := "(J)Z" } : Jvm.MethodName))) := wd_p (List.mem_of_getElem? (i := 62) rfl) rfl
set_option maxRecDepth 100000 in
theorem wd_63 : am_wok (false, (Jvm.Cond.selects "OrderMerge" ({ cls := "OrderMerge", name := "moodsOf", desc := "(LOrderMerge$Tray;)I" } : Jvm.MethodName) ({ cls := "OrderMerge", name := "moodsOf", desc := "(LOrderMerge$Tray;)I" } : Jvm.MethodName))) := wd_p (List.mem_of_getElem? (i := 63) rfl) rfl
set_option maxRecDepth 100000 in
theorem wd_64 : am_wok (false, (Jvm.Cond.selects "OrderMerge$Lots" ({ cls := "OrderMerge$Lots", name := "tally", desc := "(I)V" } : Jvm.MethodName) ({ cls := "OrderMerge$Lots", name := "tally", desc := "(I)V" } : Jvm.MethodName))) := wd_p (List.mem_of_getElem? (i := 64) rfl) rfl
set_option maxRecDepth 100000 in
theorem wd_65 : am_wok (false, (Jvm.Cond.selects "OrderMerge$Lots" ({ cls := "OrderMerge$Lots", name := "orderedIf", desc := "(LOrderMerge$Facts;I)I" } : Jvm.MethodName) ({ cls := "OrderMerge$Lots", name := "orderedIf", desc := "(LOrderMerge$Facts;I)I" } : Jvm.MethodName))) := wd_p (List.mem_of_getElem? (i := 65) rfl) rfl
set_option maxRecDepth 100000 in
theorem wd_66 : am_wok (false, (Jvm.Cond.selects "OrderMerge$Tray" ({ cls := "OrderMerge$Tray", name := "cut", desc := "(J)J" } : Jvm.MethodName) ({ cls := "OrderMerge$Tray", name := "cut", desc := "(J)J" } : Jvm.MethodName))) := wd_p (List.mem_of_getElem? (i := 66) rfl) rfl
set_option maxRecDepth 100000 in
theorem wd_67 : am_wok (false, (Jvm.Cond.selects "OrderMergeModel" ({ cls := "OrderMergeModel", name := "next", desc := "()V" } : Jvm.MethodName) ({ cls := "OrderMergeModel", name := "next", desc := "()V" } : Jvm.MethodName))) := wd_p (List.mem_of_getElem? (i := 67) rfl) rfl
set_option maxRecDepth 100000 in
theorem wd_68 : am_wok (false, (Jvm.Cond.selects "OrderMergeModel" ({ cls := "OrderMergeModel", name := "see", desc := "(I)I" } : Jvm.MethodName) ({ cls := "OrderMergeModel", name := "see", desc := "(I)I" } : Jvm.MethodName))) := wd_p (List.mem_of_getElem? (i := 68) rfl) rfl
set_option maxRecDepth 100000 in
theorem wd_69 : am_wok (false, (Jvm.Cond.selects "OrderMergeModel" ({ cls := "OrderMergeModel", name := "keyAt", desc := "()I" } : Jvm.MethodName) ({ cls := "OrderMergeModel", name := "keyAt", desc := "()I" } : Jvm.MethodName))) := wd_p (List.mem_of_getElem? (i := 69) rfl) rfl
set_option maxRecDepth 100000 in
theorem wd_70 : am_wok (false, (Jvm.Cond.selects "OrderMergeModel" ({ cls := "OrderMergeModel", name := "eats", desc := "(I)Z" } : Jvm.MethodName) ({ cls := "OrderMergeModel", name := "eats", desc := "(I)Z" } : Jvm.MethodName))) := wd_p (List.mem_of_getElem? (i := 70) rfl) rfl
set_option maxRecDepth 100000 in
theorem wd_71 : am_wok (false, (Jvm.Cond.selects "OrderMergeModel" ({ cls := "OrderMergeModel", name := "is", desc := "(I)Z" } : Jvm.MethodName) ({ cls := "OrderMergeModel", name := "is", desc := "(I)Z" } : Jvm.MethodName))) := wd_p (List.mem_of_getElem? (i := 71) rfl) rfl
set_option maxRecDepth 100000 in
theorem wd_72 : am_wok (false, (Jvm.Cond.selects "OrderMergeModel" ({ cls := "OrderMergeModel", name := "fails", desc := "(I)V" } : Jvm.MethodName) ({ cls := "OrderMergeModel", name := "fails", desc := "(I)V" } : Jvm.MethodName))) := wd_p (List.mem_of_getElem? (i := 72) rfl) rfl
set_option maxRecDepth 100000 in
theorem wd_73 : am_wok (false, (Jvm.Cond.selects "OrderMergeModel" ({ cls := "OrderMergeModel", name := "named", desc := "(III)I" } : Jvm.MethodName) ({ cls := "OrderMergeModel", name := "named", desc := "(III)I" } : Jvm.MethodName))) := wd_p (List.mem_of_getElem? (i := 73) rfl) rfl
set_option maxRecDepth 100000 in
theorem wd_74 : am_wok (false, (Jvm.Cond.selects "OrderMergeModel" ({ cls := "OrderMergeModel", name := "takes", desc := "(II)I" } : Jvm.MethodName) ({ cls := "OrderMergeModel", name := "takes", desc := "(II)I" } : Jvm.MethodName))) := wd_p (List.mem_of_getElem? (i := 74) rfl) rfl
set_option maxRecDepth 100000 in
theorem wd_75 : am_wok (false, (Jvm.Cond.selects "OrderMergeModel" ({ cls := "OrderMergeModel", name := "closes", desc := "()V" } : Jvm.MethodName) ({ cls := "OrderMergeModel", name := "closes", desc := "()V" } : Jvm.MethodName))) := wd_p (List.mem_of_getElem? (i := 75) rfl) rfl
set_option maxRecDepth 100000 in
theorem wd_76 : am_wok (false, (Jvm.Cond.selects "OrderMergeModel" ({ cls := "OrderMergeModel", name := "readLine", desc := "()V" } : Jvm.MethodName) ({ cls := "OrderMergeModel", name := "readLine", desc := "()V" } : Jvm.MethodName))) := wd_p (List.mem_of_getElem? (i := 76) rfl) rfl
set_option maxRecDepth 100000 in
theorem wd_77 : am_wok (false, (Jvm.Cond.selects "OrderMergeModel" ({ cls := "OrderMergeModel", name := "readClass", desc := "()V" } : Jvm.MethodName) ({ cls := "OrderMergeModel", name := "readClass", desc := "()V" } : Jvm.MethodName))) := wd_p (List.mem_of_getElem? (i := 77) rfl) rfl
set_option maxRecDepth 100000 in
theorem wd_78 : am_wok (false, (Jvm.Cond.selects "OrderMergeModel" ({ cls := "OrderMergeModel", name := "isUpAlready", desc := "(II)Z" } : Jvm.MethodName) ({ cls := "OrderMergeModel", name := "isUpAlready", desc := "(II)Z" } : Jvm.MethodName))) := wd_p (List.mem_of_getElem? (i := 78) rfl) rfl
set_option maxRecDepth 100000 in
theorem wd_79 : am_wok (false, (Jvm.Cond.selects "OrderMergeModel" ({ cls := "OrderMergeModel", name := "readMethod", desc := "()V" } : Jvm.MethodName) ({ cls := "OrderMergeModel", name := "readMethod", desc := "()V" } : Jvm.MethodName))) := wd_p (List.mem_of_getElem? (i := 79) rfl) rfl
set_option maxRecDepth 100000 in
theorem wd_80 : am_wok (false, (Jvm.Cond.selects "OrderMergeModel" ({ cls := "OrderMergeModel", name := "readLaw", desc := "(I)V" } : Jvm.MethodName) ({ cls := "OrderMergeModel", name := "readLaw", desc := "(I)V" } : Jvm.MethodName))) := wd_p (List.mem_of_getElem? (i := 80) rfl) rfl
set_option maxRecDepth 100000 in
theorem wd_81 : am_wok (false, (Jvm.Cond.selects "OrderMergeModel" ({ cls := "OrderMergeModel", name := "readSum", desc := "(I)V" } : Jvm.MethodName) ({ cls := "OrderMergeModel", name := "readSum", desc := "(I)V" } : Jvm.MethodName))) := wd_p (List.mem_of_getElem? (i := 81) rfl) rfl
set_option maxRecDepth 100000 in
theorem wd_82 : am_wok (false, (Jvm.Cond.selects "OrderMergeModel" ({ cls := "OrderMergeModel", name := "readTerm", desc := "(I)V" } : Jvm.MethodName) ({ cls := "OrderMergeModel", name := "readTerm", desc := "(I)V" } : Jvm.MethodName))) := wd_p (List.mem_of_getElem? (i := 82) rfl) rfl
set_option maxRecDepth 100000 in
theorem wd_83 : am_wok (false, (Jvm.Cond.selects "OrderMergeModel" ({ cls := "OrderMergeModel", name := "readAtom", desc := "(I)V" } : Jvm.MethodName) ({ cls := "OrderMergeModel", name := "readAtom", desc := "(I)V" } : Jvm.MethodName))) := wd_p (List.mem_of_getElem? (i := 83) rfl) rfl
set_option maxRecDepth 100000 in
theorem wd_84 : am_wok (false, (Jvm.Cond.selects "OrderMergeModel" ({ cls := "OrderMergeModel", name := "codes", desc := "(I)V" } : Jvm.MethodName) ({ cls := "OrderMergeModel", name := "codes", desc := "(I)V" } : Jvm.MethodName))) := wd_p (List.mem_of_getElem? (i := 84) rfl) rfl
set_option maxRecDepth 100000 in
theorem wd_85 : am_wok (false, (Jvm.Cond.selects "OrderMergeModel" ({ cls := "OrderMergeModel", name := "wordOf", desc := "(I)I" } : Jvm.MethodName) ({ cls := "OrderMergeModel", name := "wordOf", desc := "(I)I" } : Jvm.MethodName))) := wd_p (List.mem_of_getElem? (i := 85) rfl) rfl
set_option maxRecDepth 100000 in
theorem wd_86 : am_wok (false, (Jvm.Cond.selects "OrderMergeModel" ({ cls := "OrderMergeModel", name := "goesIn", desc := "(I)Z" } : Jvm.MethodName) ({ cls := "OrderMergeModel", name := "goesIn", desc := "(I)Z" } : Jvm.MethodName))) := wd_p (List.mem_of_getElem? (i := 86) rfl) rfl
set_option maxRecDepth 100000 in
theorem wd_87 : am_wok (false, (Jvm.Cond.selects "OrderMergeModel" ({ cls := "OrderMergeModel", name := "readIf", desc := "(I)V" } : Jvm.MethodName) ({ cls := "OrderMergeModel", name := "readIf", desc := "(I)V" } : Jvm.MethodName))) := wd_p (List.mem_of_getElem? (i := 87) rfl) rfl
set_option maxRecDepth 100000 in
theorem wd_88 : am_wok (false, (Jvm.Cond.selects "OrderMergeModel" ({ cls := "OrderMergeModel", name := "readTruth", desc := "(I)V" } : Jvm.MethodName) ({ cls := "OrderMergeModel", name := "readTruth", desc := "(I)V" } : Jvm.MethodName))) := wd_p (List.mem_of_getElem? (i := 88) rfl) rfl
set_option maxRecDepth 100000 in
theorem wd_89 : am_wok (false, (Jvm.Cond.selects "OrderMergeModel" ({ cls := "OrderMergeModel", name := "readBoth", desc := "(I)V" } : Jvm.MethodName) ({ cls := "OrderMergeModel", name := "readBoth", desc := "(I)V" } : Jvm.MethodName))) := wd_p (List.mem_of_getElem? (i := 89) rfl) rfl
set_option maxRecDepth 100000 in
theorem wd_90 : am_wok (false, (Jvm.Cond.selects "OrderMergeModel" ({ cls := "OrderMergeModel", name := "readUnit", desc := "(I)V" } : Jvm.MethodName) ({ cls := "OrderMergeModel", name := "readUnit", desc := "(I)V" } : Jvm.MethodName))) := wd_p (List.mem_of_getElem? (i := 90) rfl) rfl
set_option maxRecDepth 100000 in
theorem wd_91 : am_wok (false, (Jvm.Cond.selects "OrderMergeModel" ({ cls := "OrderMergeModel", name := "isClass", desc := "(J)Z" } : Jvm.MethodName) ({ cls := "OrderMergeModel", name := "isClass", desc := "(J)Z" } : Jvm.MethodName))) := wd_p (List.mem_of_getElem? (i := 91) rfl) rfl
set_option maxRecDepth 100000 in
theorem wd_92 : am_wok (false, (Jvm.Cond.selects "OrderMergeModel" ({ cls := "OrderMergeModel", name := "parentAt", desc := "(II)I" } : Jvm.MethodName) ({ cls := "OrderMergeModel", name := "parentAt", desc := "(II)I" } : Jvm.MethodName))) := wd_p (List.mem_of_getElem? (i := 92) rfl) rfl
set_option maxRecDepth 100000 in
theorem wd_93 : am_wok (false, (Jvm.Cond.selects "OrderMergeModel" ({ cls := "OrderMergeModel", name := "laysOrders", desc := "()V" } : Jvm.MethodName) ({ cls := "OrderMergeModel", name := "laysOrders", desc := "()V" } : Jvm.MethodName))) := wd_p (List.mem_of_getElem? (i := 93) rfl) rfl
set_option maxRecDepth 100000 in
theorem wd_94 : am_wok (false, (Jvm.Cond.selects "OrderMergeModel" ({ cls := "OrderMergeModel", name := "laysParents", desc := "(I)V" } : Jvm.MethodName) ({ cls := "OrderMergeModel", name := "laysParents", desc := "(I)V" } : Jvm.MethodName))) := wd_p (List.mem_of_getElem? (i := 94) rfl) rfl
set_option maxRecDepth 100000 in
theorem wd_95 : am_wok (false, (Jvm.Cond.selects "OrderMergeModel" ({ cls := "OrderMergeModel", name := "laysOrder", desc := "(I)V" } : Jvm.MethodName) ({ cls := "OrderMergeModel", name := "laysOrder", desc := "(I)V" } : Jvm.MethodName))) := wd_p (List.mem_of_getElem? (i := 95) rfl) rfl
set_option maxRecDepth 100000 in
theorem wd_96 : am_wok (false, (Jvm.Cond.selects "OrderMergeModel" ({ cls := "OrderMergeModel", name := "merges", desc := "(I)I" } : Jvm.MethodName) ({ cls := "OrderMergeModel", name := "merges", desc := "(I)I" } : Jvm.MethodName))) := wd_p (List.mem_of_getElem? (i := 96) rfl) rfl
set_option maxRecDepth 100000 in
theorem wd_97 : am_wok (false, (Jvm.Cond.selects "OrderMergeModel" ({ cls := "OrderMergeModel", name := "laysRows", desc := "()V" } : Jvm.MethodName) ({ cls := "OrderMergeModel", name := "laysRows", desc := "()V" } : Jvm.MethodName))) := wd_p (List.mem_of_getElem? (i := 97) rfl) rfl
set_option maxRecDepth 100000 in
theorem wd_98 : am_wok (false, (Jvm.Cond.selects "OrderMergeModel" ({ cls := "OrderMergeModel", name := "givenBy", desc := "(I)I" } : Jvm.MethodName) ({ cls := "OrderMergeModel", name := "givenBy", desc := "(I)I" } : Jvm.MethodName))) := wd_p (List.mem_of_getElem? (i := 98) rfl) rfl
set_option maxRecDepth 100000 in
theorem wd_99 : am_wok (false, (Jvm.Cond.selects "OrderMergeModel" ({ cls := "OrderMergeModel", name := "placeIn", desc := "(II)I" } : Jvm.MethodName) ({ cls := "OrderMergeModel", name := "placeIn", desc := "(II)I" } : Jvm.MethodName))) := wd_p (List.mem_of_getElem? (i := 99) rfl) rfl
set_option maxRecDepth 100000 in
theorem wd_100 : am_wok (false, (Jvm.Cond.selects "OrderMergeModel" ({ cls := "OrderMergeModel", name := "aboveOf", desc := "(I)I" } : Jvm.MethodName) ({ cls := "OrderMergeModel", name := "aboveOf", desc := "(I)I" } : Jvm.MethodName))) := wd_p (List.mem_of_getElem? (i := 100) rfl) rfl
set_option maxRecDepth 100000 in
theorem wd_101 : am_wok (false, (Jvm.Cond.selects "OrderMergeModel" ({ cls := "OrderMergeModel", name := "whyGive", desc := "(JJ)I" } : Jvm.MethodName) ({ cls := "OrderMergeModel", name := "whyGive", desc := "(JJ)I" } : Jvm.MethodName))) := wd_p (List.mem_of_getElem? (i := 101) rfl) rfl
set_option maxRecDepth 100000 in
theorem wd_102 : am_wok (false, (Jvm.Cond.selects "OrderMergeModel" ({ cls := "OrderMergeModel", name := "placeOfParent", desc := "(II)I" } : Jvm.MethodName) ({ cls := "OrderMergeModel", name := "placeOfParent", desc := "(II)I" } : Jvm.MethodName))) := wd_p (List.mem_of_getElem? (i := 102) rfl) rfl
set_option maxRecDepth 100000 in
theorem wd_103 : am_wok (false, (Jvm.Cond.selects "OrderMergeModel" ({ cls := "OrderMergeModel", name := "stores", desc := "()V" } : Jvm.MethodName) ({ cls := "OrderMergeModel", name := "stores", desc := "()V" } : Jvm.MethodName))) := wd_p (List.mem_of_getElem? (i := 103) rfl) rfl
set_option maxRecDepth 100000 in
theorem wd_104 : am_wok (false, (Jvm.Cond.selects "OrderMergeModel" ({ cls := "OrderMergeModel", name := "goesGive", desc := "(II)V" } : Jvm.MethodName) ({ cls := "OrderMergeModel", name := "goesGive", desc := "(II)V" } : Jvm.MethodName))) := wd_p (List.mem_of_getElem? (i := 104) rfl) rfl
set_option maxRecDepth 100000 in
theorem wd_105 : am_wok (false, (Jvm.Cond.selects "OrderMergeModel" ({ cls := "OrderMergeModel", name := "endsWith", desc := "(I)I" } : Jvm.MethodName) ({ cls := "OrderMergeModel", name := "endsWith", desc := "(I)I" } : Jvm.MethodName))) := wd_p (List.mem_of_getElem? (i := 105) rfl) rfl
set_option maxRecDepth 100000 in
theorem wd_106 : am_wok (false, (Jvm.Cond.selects "OrderMergeModel" ({ cls := "OrderMergeModel", name := "notes", desc := "()V" } : Jvm.MethodName) ({ cls := "OrderMergeModel", name := "notes", desc := "()V" } : Jvm.MethodName))) := wd_p (List.mem_of_getElem? (i := 106) rfl) rfl
set_option maxRecDepth 100000 in
theorem wd_107 : am_wok (false, (Jvm.Cond.selects "OrderMergeModel" ({ cls := "OrderMergeModel", name := "whyTake", desc := "(JJ)I" } : Jvm.MethodName) ({ cls := "OrderMergeModel", name := "whyTake", desc := "(JJ)I" } : Jvm.MethodName))) := wd_p (List.mem_of_getElem? (i := 107) rfl) rfl
set_option maxRecDepth 100000 in
theorem wd_108 : am_wok (false, (Jvm.Cond.selects "OrderMergeModel" ({ cls := "OrderMergeModel", name := "goesTake", desc := "(II)V" } : Jvm.MethodName) ({ cls := "OrderMergeModel", name := "goesTake", desc := "(II)V" } : Jvm.MethodName))) := wd_p (List.mem_of_getElem? (i := 108) rfl) rfl
set_option maxRecDepth 100000 in
theorem wd_109 : am_wok (false, (Jvm.Cond.selects "OrderMergeModel" ({ cls := "OrderMergeModel", name := "whySwap", desc := "(JJ)I" } : Jvm.MethodName) ({ cls := "OrderMergeModel", name := "whySwap", desc := "(JJ)I" } : Jvm.MethodName))) := wd_p (List.mem_of_getElem? (i := 109) rfl) rfl
set_option maxRecDepth 100000 in
theorem wd_110 : am_wok (false, (Jvm.Cond.selects "OrderMergeModel" ({ cls := "OrderMergeModel", name := "goesSwap", desc := "(II)V" } : Jvm.MethodName) ({ cls := "OrderMergeModel", name := "goesSwap", desc := "(II)V" } : Jvm.MethodName))) := wd_p (List.mem_of_getElem? (i := 110) rfl) rfl
set_option maxRecDepth 100000 in
theorem wd_111 : am_wok (false, (Jvm.Cond.selects "OrderMergeModel" ({ cls := "OrderMergeModel", name := "whyDefine", desc := "(JJJ)I" } : Jvm.MethodName) ({ cls := "OrderMergeModel", name := "whyDefine", desc := "(JJJ)I" } : Jvm.MethodName))) := wd_p (List.mem_of_getElem? (i := 111) rfl) rfl
set_option maxRecDepth 100000 in
theorem wd_112 : am_wok (false, (Jvm.Cond.selects "OrderMergeModel" ({ cls := "OrderMergeModel", name := "noTray", desc := "(I)I" } : Jvm.MethodName) ({ cls := "OrderMergeModel", name := "noTray", desc := "(I)I" } : Jvm.MethodName))) := wd_p (List.mem_of_getElem? (i := 112) rfl) rfl
set_option maxRecDepth 100000 in
theorem wd_113 : am_wok (false, (Jvm.Cond.selects "OrderMergeModel" ({ cls := "OrderMergeModel", name := "tells", desc := "(I)I" } : Jvm.MethodName) ({ cls := "OrderMergeModel", name := "tells", desc := "(I)I" } : Jvm.MethodName))) := wd_p (List.mem_of_getElem? (i := 113) rfl) rfl
set_option maxRecDepth 100000 in
theorem wd_114 : am_wok (false, (Jvm.Cond.selects "OrderMergeModel" ({ cls := "OrderMergeModel", name := "whyNot", desc := "(J)I" } : Jvm.MethodName) ({ cls := "OrderMergeModel", name := "whyNot", desc := "(J)I" } : Jvm.MethodName))) := wd_p (List.mem_of_getElem? (i := 114) rfl) rfl
set_option maxRecDepth 100000 in
theorem wd_115 : am_wok (false, (Jvm.Cond.selects "OrderMergeModel" ({ cls := "OrderMergeModel", name := "does", desc := "(I)V" } : Jvm.MethodName) ({ cls := "OrderMergeModel", name := "does", desc := "(I)V" } : Jvm.MethodName))) := wd_p (List.mem_of_getElem? (i := 115) rfl) rfl
set_option maxRecDepth 100000 in
theorem wd_116 : am_wok (false, (Jvm.Cond.selects "OrderMergeModel" ({ cls := "OrderMergeModel", name := "statesOf", desc := "(I)I" } : Jvm.MethodName) ({ cls := "OrderMergeModel", name := "statesOf", desc := "(I)I" } : Jvm.MethodName))) := wd_p (List.mem_of_getElem? (i := 116) rfl) rfl
set_option maxRecDepth 100000 in
theorem wd_117 : am_wok (false, (Jvm.Cond.selects "OrderMergeModel" ({ cls := "OrderMergeModel", name := "links", desc := "()I" } : Jvm.MethodName) ({ cls := "OrderMergeModel", name := "links", desc := "()I" } : Jvm.MethodName))) := wd_p (List.mem_of_getElem? (i := 117) rfl) rfl
set_option maxRecDepth 100000 in
theorem wd_118 : am_wok (false, (Jvm.Cond.selects "OrderMergeModel" ({ cls := "OrderMergeModel", name := "isAgain", desc := "()V" } : Jvm.MethodName) ({ cls := "OrderMergeModel", name := "isAgain", desc := "()V" } : Jvm.MethodName))) := wd_p (List.mem_of_getElem? (i := 118) rfl) rfl
set_option maxRecDepth 100000 in
theorem wd_119 : am_wok (false, (Jvm.Cond.selects "OrderMergeModel" ({ cls := "OrderMergeModel", name := "drawn", desc := "()I" } : Jvm.MethodName) ({ cls := "OrderMergeModel", name := "drawn", desc := "()I" } : Jvm.MethodName))) := wd_p (List.mem_of_getElem? (i := 119) rfl) rfl
set_option maxRecDepth 100000 in
theorem wd_120 : am_wok (false, (Jvm.Cond.selects "OrderMergeModel" ({ cls := "OrderMergeModel", name := "draw", desc := "(I)I" } : Jvm.MethodName) ({ cls := "OrderMergeModel", name := "draw", desc := "(I)I" } : Jvm.MethodName))) := wd_p (List.mem_of_getElem? (i := 120) rfl) rfl
set_option maxRecDepth 100000 in
theorem wd_121 : am_wok (false, (Jvm.Cond.selects "OrderMergeModel" ({ cls := "OrderMergeModel", name := "noDemands", desc := "(I)I" } : Jvm.MethodName) ({ cls := "OrderMergeModel", name := "noDemands", desc := "(I)I" } : Jvm.MethodName))) := wd_p (List.mem_of_getElem? (i := 121) rfl) rfl
set_option maxRecDepth 100000 in
theorem wd_122 : am_wok (false, (Jvm.Cond.selects "OrderMergeModel" ({ cls := "OrderMergeModel", name := "laysDemands", desc := "(I)V" } : Jvm.MethodName) ({ cls := "OrderMergeModel", name := "laysDemands", desc := "(I)V" } : Jvm.MethodName))) := wd_p (List.mem_of_getElem? (i := 122) rfl) rfl
set_option maxRecDepth 100000 in
theorem wd_123 : am_wok (false, (Jvm.Cond.selects "OrderMergeModel" ({ cls := "OrderMergeModel", name := "demandsRow", desc := "(II)V" } : Jvm.MethodName) ({ cls := "OrderMergeModel", name := "demandsRow", desc := "(II)V" } : Jvm.MethodName))) := wd_p (List.mem_of_getElem? (i := 123) rfl) rfl
set_option maxRecDepth 100000 in
theorem wd_124 : am_wok (false, (Jvm.Cond.selects "OrderMergeModel" ({ cls := "OrderMergeModel", name := "laysRing", desc := "()I" } : Jvm.MethodName) ({ cls := "OrderMergeModel", name := "laysRing", desc := "()I" } : Jvm.MethodName))) := wd_p (List.mem_of_getElem? (i := 124) rfl) rfl
set_option maxRecDepth 100000 in
theorem wd_125 : am_wok (false, (Jvm.Cond.selects "OrderMergeModel" ({ cls := "OrderMergeModel", name := "isRing", desc := "(III)Z" } : Jvm.MethodName) ({ cls := "OrderMergeModel", name := "isRing", desc := "(III)Z" } : Jvm.MethodName))) := wd_p (List.mem_of_getElem? (i := 125) rfl) rfl
set_option maxRecDepth 100000 in
theorem wd_126 : am_wok (false, (Jvm.Cond.selects "OrderMergeModel" ({ cls := "OrderMergeModel", name := "laysWays", desc := "(I)V" } : Jvm.MethodName) ({ cls := "OrderMergeModel", name := "laysWays", desc := "(I)V" } : Jvm.MethodName))) := wd_p (List.mem_of_getElem? (i := 126) rfl) rfl
set_option maxRecDepth 100000 in
theorem wd_127 : am_wok (false, (Jvm.Cond.selects "OrderMergeModel" ({ cls := "OrderMergeModel", name := "canStand", desc := "(III)Z" } : Jvm.MethodName) ({ cls := "OrderMergeModel", name := "canStand", desc := "(III)Z" } : Jvm.MethodName))) := wd_p (List.mem_of_getElem? (i := 127) rfl) rfl
set_option maxRecDepth 100000 in
theorem wd_128 : am_wok (false, (Jvm.Cond.selects "OrderMergeModel" ({ cls := "OrderMergeModel", name := "laysOld", desc := "(II)V" } : Jvm.MethodName) ({ cls := "OrderMergeModel", name := "laysOld", desc := "(II)V" } : Jvm.MethodName))) := wd_p (List.mem_of_getElem? (i := 128) rfl) rfl
set_option maxRecDepth 100000 in
theorem wd_129 : am_wok (false, (Jvm.Cond.selects "OrderMergeModel" ({ cls := "OrderMergeModel", name := "laysBroad", desc := "(I)V" } : Jvm.MethodName) ({ cls := "OrderMergeModel", name := "laysBroad", desc := "(I)V" } : Jvm.MethodName))) := wd_p (List.mem_of_getElem? (i := 129) rfl) rfl
set_option maxRecDepth 100000 in
theorem wd_130 : am_wok (false, (Jvm.Cond.selects "OrderMergeModel" ({ cls := "OrderMergeModel", name := "goesDeep", desc := "(I)V" } : Jvm.MethodName) ({ cls := "OrderMergeModel", name := "goesDeep", desc := "(I)V" } : Jvm.MethodName))) := wd_p (List.mem_of_getElem? (i := 130) rfl) rfl
set_option maxRecDepth 100000 in
theorem wd_131 : am_wok (false, (Jvm.Cond.selects "OrderMergeModel" ({ cls := "OrderMergeModel", name := "placeOld", desc := "(I)I" } : Jvm.MethodName) ({ cls := "OrderMergeModel", name := "placeOld", desc := "(I)I" } : Jvm.MethodName))) := wd_p (List.mem_of_getElem? (i := 131) rfl) rfl
set_option maxRecDepth 100000 in
theorem wd_132 : am_wok (false, (Jvm.Cond.selects "OrderMergeModel" ({ cls := "OrderMergeModel", name := "saysOf", desc := "(III)I" } : Jvm.MethodName) ({ cls := "OrderMergeModel", name := "saysOf", desc := "(III)I" } : Jvm.MethodName))) := wd_p (List.mem_of_getElem? (i := 132) rfl) rfl
set_option maxRecDepth 100000 in
theorem wd_133 : am_wok (false, (Jvm.Cond.selects "OrderMergeModel" ({ cls := "OrderMergeModel", name := "laysCall", desc := "(III)V" } : Jvm.MethodName) ({ cls := "OrderMergeModel", name := "laysCall", desc := "(III)V" } : Jvm.MethodName))) := wd_p (List.mem_of_getElem? (i := 133) rfl) rfl
set_option maxRecDepth 100000 in
theorem wd_134 : am_wok (false, (Jvm.Cond.selects "OrderMergeModel" ({ cls := "OrderMergeModel", name := "isSeen", desc := "(IIII)Z" } : Jvm.MethodName) ({ cls := "OrderMergeModel", name := "isSeen", desc := "(IIII)Z" } : Jvm.MethodName))) := wd_p (List.mem_of_getElem? (i := 134) rfl) rfl
set_option maxRecDepth 100000 in
theorem wd_135 : am_wok (false, (Jvm.Cond.selects "OrderMergeModel" ({ cls := "OrderMergeModel", name := "laysWords", desc := "(IIII)V" } : Jvm.MethodName) ({ cls := "OrderMergeModel", name := "laysWords", desc := "(IIII)V" } : Jvm.MethodName))) := wd_p (List.mem_of_getElem? (i := 135) rfl) rfl
set_option maxRecDepth 100000 in
theorem wd_136 : am_wok (false, (Jvm.Cond.selects "OrderMergeModel" ({ cls := "OrderMergeModel", name := "reckons", desc := "(I)I" } : Jvm.MethodName) ({ cls := "OrderMergeModel", name := "reckons", desc := "(I)I" } : Jvm.MethodName))) := wd_p (List.mem_of_getElem? (i := 136) rfl) rfl
set_option maxRecDepth 100000 in
theorem wd_137 : am_wok (false, (Jvm.Cond.selects "OrderMergeModel" ({ cls := "OrderMergeModel", name := "deadOnes", desc := "(Z)I" } : Jvm.MethodName) ({ cls := "OrderMergeModel", name := "deadOnes", desc := "(Z)I" } : Jvm.MethodName))) := wd_p (List.mem_of_getElem? (i := 137) rfl) rfl
set_option maxRecDepth 100000 in
theorem wd_138 : am_wok (false, (Jvm.Cond.selects "OrderMergeModel" ({ cls := "OrderMergeModel", name := "noWould", desc := "(I)I" } : Jvm.MethodName) ({ cls := "OrderMergeModel", name := "noWould", desc := "(I)I" } : Jvm.MethodName))) := wd_p (List.mem_of_getElem? (i := 138) rfl) rfl
set_option maxRecDepth 100000 in
theorem wd_139 : am_wok (false, (Jvm.Cond.selects "OrderMergeModel" ({ cls := "OrderMergeModel", name := "laysWould", desc := "(I)I" } : Jvm.MethodName) ({ cls := "OrderMergeModel", name := "laysWould", desc := "(I)I" } : Jvm.MethodName))) := wd_p (List.mem_of_getElem? (i := 139) rfl) rfl
set_option maxRecDepth 100000 in
theorem wd_140 : am_wok (false, (Jvm.Cond.selects "OrderMergeModel" ({ cls := "OrderMergeModel", name := "wouldFrom", desc := "(I)I" } : Jvm.MethodName) ({ cls := "OrderMergeModel", name := "wouldFrom", desc := "(I)I" } : Jvm.MethodName))) := wd_p (List.mem_of_getElem? (i := 140) rfl) rfl
set_option maxRecDepth 100000 in
theorem wd_141 : am_wok (false, (Jvm.Cond.selects "OrderMergeModel" ({ cls := "OrderMergeModel", name := "trades", desc := "(II)V" } : Jvm.MethodName) ({ cls := "OrderMergeModel", name := "trades", desc := "(II)V" } : Jvm.MethodName))) := wd_p (List.mem_of_getElem? (i := 141) rfl) rfl
set_option maxRecDepth 100000 in
theorem wd_142 : am_wok (false, (Jvm.Cond.selects "OrderMergeModel" ({ cls := "OrderMergeModel", name := "laysRepairs", desc := "()I" } : Jvm.MethodName) ({ cls := "OrderMergeModel", name := "laysRepairs", desc := "()I" } : Jvm.MethodName))) := wd_p (List.mem_of_getElem? (i := 142) rfl) rfl
set_option maxRecDepth 100000 in
theorem wd_143 : am_wok (false, (Jvm.Cond.selects "OrderMergeModel" ({ cls := "OrderMergeModel", name := "repairsBy", desc := "(II)Z" } : Jvm.MethodName) ({ cls := "OrderMergeModel", name := "repairsBy", desc := "(II)Z" } : Jvm.MethodName))) := wd_p (List.mem_of_getElem? (i := 143) rfl) rfl
set_option maxRecDepth 100000 in
theorem wd_144 : am_wok (false, (Jvm.Cond.selects "OrderMergeModel" ({ cls := "OrderMergeModel", name := "isWhole", desc := "()Z" } : Jvm.MethodName) ({ cls := "OrderMergeModel", name := "isWhole", desc := "()Z" } : Jvm.MethodName))) := wd_p (List.mem_of_getElem? (i := 144) rfl) rfl
set_option maxRecDepth 100000 in
theorem wd_145 : am_wok (false, (Jvm.Cond.selects "OrderMergeModel" ({ cls := "OrderMergeModel", name := "isTaken", desc := "(I)Z" } : Jvm.MethodName) ({ cls := "OrderMergeModel", name := "isTaken", desc := "(I)Z" } : Jvm.MethodName))) := wd_p (List.mem_of_getElem? (i := 145) rfl) rfl
set_option maxRecDepth 100000 in
theorem wd_146 : am_wok (false, (Jvm.Cond.selects "OrderMergeModel" ({ cls := "OrderMergeModel", name := "noTold", desc := "(I)I" } : Jvm.MethodName) ({ cls := "OrderMergeModel", name := "noTold", desc := "(I)I" } : Jvm.MethodName))) := wd_p (List.mem_of_getElem? (i := 146) rfl) rfl
set_option maxRecDepth 100000 in
theorem wd_147 : am_wok (false, (Jvm.Cond.selects "OrderMergeModel" ({ cls := "OrderMergeModel", name := "moodsOf", desc := "(I)I" } : Jvm.MethodName) ({ cls := "OrderMergeModel", name := "moodsOf", desc := "(I)I" } : Jvm.MethodName))) := wd_p (List.mem_of_getElem? (i := 147) rfl) rfl
set_option maxRecDepth 100000 in
theorem wd_148 : am_wok (false, (Jvm.Cond.selects "OrderMergeModel" ({ cls := "OrderMergeModel", name := "mostAlike", desc := "(III)I" } : Jvm.MethodName) ({ cls := "OrderMergeModel", name := "mostAlike", desc := "(III)I" } : Jvm.MethodName))) := wd_p (List.mem_of_getElem? (i := 148) rfl) rfl
set_option maxRecDepth 100000 in
theorem wd_149 : am_wok (false, (Jvm.Cond.selects "OrderMergeModel" ({ cls := "OrderMergeModel", name := "part", desc := "(ZII)I" } : Jvm.MethodName) ({ cls := "OrderMergeModel", name := "part", desc := "(ZII)I" } : Jvm.MethodName))) := wd_p (List.mem_of_getElem? (i := 149) rfl) rfl
set_option maxRecDepth 100000 in
theorem wd_150 : am_wok (false, (Jvm.Cond.selects "OrderMergeModel" ({ cls := "OrderMergeModel", name := "goesLots", desc := "(I)V" } : Jvm.MethodName) ({ cls := "OrderMergeModel", name := "goesLots", desc := "(I)V" } : Jvm.MethodName))) := wd_p (List.mem_of_getElem? (i := 150) rfl) rfl
set_option maxRecDepth 100000 in
theorem wd_151 : am_wok (false, (Jvm.Cond.selects "OrderMergeModel" ({ cls := "OrderMergeModel", name := "definitions", desc := "()I" } : Jvm.MethodName) ({ cls := "OrderMergeModel", name := "definitions", desc := "()I" } : Jvm.MethodName))) := wd_p (List.mem_of_getElem? (i := 151) rfl) rfl
set_option maxRecDepth 100000 in
theorem wd_153 : am_wok (false, (Jvm.Cond.initialized "OrderMerge")) := wd_m (tb_1 (i := 1) rfl) rfl
set_option maxRecDepth 100000 in
theorem wd_154 : am_wok (false, (Jvm.Cond.initialized "OrderMerge$Reader")) := wd_m (tb_1 (i := 2) rfl) rfl
set_option maxRecDepth 100000 in
theorem wd_155 : am_wok (false, (Jvm.Cond.initialized "OrderMerge$Facts")) := wd_m (tb_1 (i := 3) rfl) rfl
set_option maxRecDepth 100000 in
theorem wd_156 : am_wok (false, (Jvm.Cond.initialized "OrderMerge$House")) := wd_m (tb_1 (i := 4) rfl) rfl
set_option maxRecDepth 100000 in
theorem wd_157 : am_wok (false, (Jvm.Cond.initialized "OrderMerge$Orders")) := wd_m (tb_1 (i := 5) rfl) rfl
set_option maxRecDepth 100000 in
theorem wd_158 : am_wok (false, (Jvm.Cond.initialized "OrderMerge$Past")) := wd_m (tb_1 (i := 6) rfl) rfl
set_option maxRecDepth 100000 in
theorem wd_159 : am_wok (false, (Jvm.Cond.initialized "OrderMerge$Demands")) := wd_m (tb_1 (i := 7) rfl) rfl
set_option maxRecDepth 100000 in
theorem wd_160 : am_wok (false, (Jvm.Cond.initialized "OrderMerge$OldOrders")) := wd_m (tb_1 (i := 8) rfl) rfl
set_option maxRecDepth 100000 in
theorem wd_161 : am_wok (false, (Jvm.Cond.initialized "OrderMerge$Voice")) := wd_m (tb_1 (i := 9) rfl) rfl
set_option maxRecDepth 100000 in
theorem wd_162 : am_wok (false, (Jvm.Cond.initialized "OrderMerge$Mender")) := wd_m (tb_1 (i := 10) rfl) rfl
set_option maxRecDepth 100000 in
theorem wd_163 : am_wok (false, (Jvm.Cond.initialized "OrderMerge$Lots")) := wd_m (tb_1 (i := 11) rfl) rfl
set_option maxRecDepth 100000 in
theorem wd_164 : am_wok (false, (Jvm.Cond.initialized "OrderMerge$Tray")) := wd_m (tb_1 (i := 12) rfl) rfl
set_option maxRecDepth 100000 in
theorem wd_165 : am_wok (false, (Jvm.Cond.initialized "OrderMergeModel")) := wd_m (tb_1 (i := 13) rfl) rfl
set_option maxRecDepth 100000 in
theorem wd_166 : am_wok (false, (Jvm.Cond.initialized "java/lang/Math")) := wd_m (tb_1 (i := 14) rfl) rfl
set_option maxRecDepth 100000 in
theorem wd_167 : am_wok (false, (Jvm.Cond.initialized "java/util/Arrays")) := wd_m (tb_1 (i := 15) rfl) rfl
set_option maxRecDepth 100000 in
theorem wd_168 : am_wok (false, (Jvm.Cond.initialized "java/lang/String")) := wd_m (tb_1 (i := 16) rfl) rfl
set_option maxRecDepth 100000 in
theorem wd_169 : am_wok (false, (Jvm.Cond.initialized "java/lang/StringLatin1")) := wd_m (tb_1 (i := 17) rfl) rfl
set_option maxRecDepth 100000 in
theorem wd_170 : am_wok (false, (Jvm.Cond.initialized "jdk/internal/util/Preconditions")) := wd_m (tb_1 (i := 18) rfl) rfl
set_option maxRecDepth 100000 in
theorem wd_171 : am_wok (false, (Jvm.Cond.initialized "java/lang/StringUTF16")) := wd_m (tb_1 (i := 19) rfl) rfl
set_option maxRecDepth 100000 in
theorem wd_172 : am_wok (false, (Jvm.Cond.initialized "java/lang/Character")) := wd_m (tb_1 (i := 20) rfl) rfl
set_option maxRecDepth 100000 in
theorem wd_173 : am_wok (false, (Jvm.Cond.initialized "java/lang/System")) := wd_m (tb_1 (i := 21) rfl) rfl
set_option maxRecDepth 100000 in
theorem wd_174 : am_wok (false, (Jvm.Cond.initialized "java/lang/Integer")) := wd_m (tb_1 (i := 22) rfl) rfl
set_option maxRecDepth 100000 in
theorem wd_175 : am_wok (false, (Jvm.Cond.classLink "OrderMergeLaw" (7 : Nat) "OrderMerge")) := wd_m (tb_1 (i := 23) rfl) rfl
set_option maxRecDepth 100000 in
theorem wd_176 : am_wok (false, (Jvm.Cond.instantiable "OrderMerge" (19 : Nat))) := wd_m (tb_1 (i := 24) rfl) rfl
set_option maxRecDepth 100000 in
theorem wd_177 : am_wok (false, (Jvm.Cond.methodLink "OrderMergeLaw" (9 : Nat) ({ cls := "OrderMerge", name := "<init>", desc := "()V" } : Jvm.MethodName))) := wd_m (tb_1 (i := 25) rfl) rfl
set_option maxRecDepth 100000 in
theorem wd_178 : am_wok (false, (Jvm.Cond.instanceMethod ({ cls := "OrderMerge", name := "<init>", desc := "()V" } : Jvm.MethodName))) := wd_m (tb_1 (i := 26) rfl) rfl
set_option maxRecDepth 100000 in
theorem wd_179 : am_wok (false, (Jvm.Cond.code ({ cls := "OrderMerge", name := "<init>", desc := "()V" } : Jvm.MethodName) prog_1_method_1_code (2 : Nat) (Option.none : Option Jvm.ClassFile.FieldType))) := wd_m (tb_1 (i := 27) rfl) rfl
set_option maxRecDepth 100000 in
theorem wd_180 : am_wok (false, (Jvm.Cond.methodLink "OrderMerge" (3 : Nat) ({ cls := "java/lang/Object", name := "<init>", desc := "()V" } : Jvm.MethodName))) := wd_m (tb_1 (i := 28) rfl) rfl
set_option maxRecDepth 100000 in
theorem wd_181 : am_wok (false, (Jvm.Cond.instanceMethod ({ cls := "java/lang/Object", name := "<init>", desc := "()V" } : Jvm.MethodName))) := wd_m (tb_1 (i := 29) rfl) rfl
set_option maxRecDepth 100000 in
theorem wd_182 : am_wok (false, (Jvm.Cond.code ({ cls := "java/lang/Object", name := "<init>", desc := "()V" } : Jvm.MethodName) object_method_1_code (1 : Nat) (Option.none : Option Jvm.ClassFile.FieldType))) := wd_m (tb_1 (i := 30) rfl) rfl
set_option maxRecDepth 100000 in
theorem wd_183 : am_wok (false, (Jvm.Cond.classLink "OrderMerge" (17 : Nat) "OrderMerge$Reader")) := wd_m (tb_1 (i := 31) rfl) rfl
set_option maxRecDepth 100000 in
theorem wd_184 : am_wok (false, (Jvm.Cond.instantiable "OrderMerge$Reader" (17 : Nat))) := wd_m (tb_1 (i := 32) rfl) rfl
set_option maxRecDepth 100000 in
theorem wd_185 : am_wok (true, (Jvm.Cond.methodLinkNest "OrderMerge" (19 : Nat) ({ cls := "OrderMerge$Reader", name := "<init>", desc := "()V" } : Jvm.MethodName) "OrderMerge")) := wd_n (tb_1 (i := 33) rfl) rfl
set_option maxRecDepth 100000 in
theorem wd_186 : am_wok (false, (Jvm.Cond.instanceMethod ({ cls := "OrderMerge$Reader", name := "<init>", desc := "()V" } : Jvm.MethodName))) := wd_m (tb_1 (i := 34) rfl) rfl
set_option maxRecDepth 100000 in
theorem wd_187 : am_wok (false, (Jvm.Cond.code ({ cls := "OrderMerge$Reader", name := "<init>", desc := "()V" } : Jvm.MethodName) prog_10_method_1_code (1 : Nat) (Option.none : Option Jvm.ClassFile.FieldType))) := wd_m (tb_1 (i := 35) rfl) rfl
set_option maxRecDepth 100000 in
theorem wd_188 : am_wok (false, (Jvm.Cond.methodLink "OrderMerge$Reader" (3 : Nat) ({ cls := "java/lang/Object", name := "<init>", desc := "()V" } : Jvm.MethodName))) := wd_m (tb_1 (i := 36) rfl) rfl
set_option maxRecDepth 100000 in
theorem wd_189 : am_wok (false, (Jvm.Cond.classLink "OrderMerge$Reader" (18 : Nat) "OrderMerge$Facts")) := wd_m (tb_1 (i := 37) rfl) rfl
set_option maxRecDepth 100000 in
theorem wd_190 : am_wok (false, (Jvm.Cond.instantiable "OrderMerge$Facts" (5 : Nat))) := wd_m (tb_1 (i := 38) rfl) rfl
set_option maxRecDepth 100000 in
theorem wd_191 : am_wok (true, (Jvm.Cond.methodLinkNest "OrderMerge$Reader" (20 : Nat) ({ cls := "OrderMerge$Facts", name := "<init>", desc := "()V" } : Jvm.MethodName) "OrderMerge")) := wd_n (tb_1 (i := 39) rfl) rfl
set_option maxRecDepth 100000 in
theorem wd_192 : am_wok (false, (Jvm.Cond.instanceMethod ({ cls := "OrderMerge$Facts", name := "<init>", desc := "()V" } : Jvm.MethodName))) := wd_m (tb_1 (i := 40) rfl) rfl
set_option maxRecDepth 100000 in
theorem wd_193 : am_wok (false, (Jvm.Cond.code ({ cls := "OrderMerge$Facts", name := "<init>", desc := "()V" } : Jvm.MethodName) prog_3_method_1_code (1 : Nat) (Option.none : Option Jvm.ClassFile.FieldType))) := wd_m (tb_1 (i := 41) rfl) rfl
set_option maxRecDepth 100000 in
theorem wd_194 : am_wok (false, (Jvm.Cond.methodLink "OrderMerge$Facts" (3 : Nat) ({ cls := "java/lang/Object", name := "<init>", desc := "()V" } : Jvm.MethodName))) := wd_m (tb_1 (i := 42) rfl) rfl
set_option maxRecDepth 100000 in
theorem wd_195 : am_wok (false, (Jvm.Cond.fieldLink "OrderMerge$Facts" (21 : Nat) "OrderMerge$Facts" "classes" "I")) := wd_m (tb_1 (i := 43) rfl) rfl
set_option maxRecDepth 100000 in
theorem wd_196 : am_wok (true, (Jvm.Cond.fieldLinkNest "OrderMerge$Lots" (40 : Nat) "OrderMerge$Facts" "classes" "I" "OrderMerge")) := wd_n (tb_1 (i := 44) rfl) rfl
set_option maxRecDepth 100000 in
theorem wd_197 : am_wok (true, (Jvm.Cond.fieldLinkNest "OrderMerge$Mender" (41 : Nat) "OrderMerge$Facts" "classes" "I" "OrderMerge")) := wd_n (tb_1 (i := 45) rfl) rfl
set_option maxRecDepth 100000 in
theorem wd_198 : am_wok (true, (Jvm.Cond.fieldLinkNest "OrderMerge$OldOrders" (31 : Nat) "OrderMerge$Facts" "classes" "I" "OrderMerge")) := wd_n (tb_1 (i := 46) rfl) rfl
set_option maxRecDepth 100000 in
theorem wd_199 : am_wok (true, (Jvm.Cond.fieldLinkNest "OrderMerge$Voice" (114 : Nat) "OrderMerge$Facts" "classes" "I" "OrderMerge")) := wd_n (tb_1 (i := 47) rfl) rfl
set_option maxRecDepth 100000 in
theorem wd_200 : am_wok (true, (Jvm.Cond.fieldLinkNest "OrderMerge$Orders" (53 : Nat) "OrderMerge$Facts" "classes" "I" "OrderMerge")) := wd_n (tb_1 (i := 48) rfl) rfl
set_option maxRecDepth 100000 in
theorem wd_201 : am_wok (true, (Jvm.Cond.fieldLinkNest "OrderMerge" (175 : Nat) "OrderMerge$Facts" "classes" "I" "OrderMerge")) := wd_n (tb_1 (i := 49) rfl) rfl
set_option maxRecDepth 100000 in
theorem wd_202 : am_wok (true, (Jvm.Cond.fieldLinkNest "OrderMerge$Reader" (165 : Nat) "OrderMerge$Facts" "classes" "I" "OrderMerge")) := wd_n (tb_1 (i := 50) rfl) rfl
set_option maxRecDepth 100000 in
theorem wd_203 : am_wok (false, (Jvm.Cond.fieldLink "OrderMerge$Facts" (25 : Nat) "OrderMerge$Facts" "mood" "I")) := wd_m (tb_1 (i := 51) rfl) rfl
set_option maxRecDepth 100000 in
theorem wd_204 : am_wok (true, (Jvm.Cond.fieldLinkNest "OrderMerge$Voice" (117 : Nat) "OrderMerge$Facts" "mood" "I" "OrderMerge")) := wd_n (tb_1 (i := 52) rfl) rfl
set_option maxRecDepth 100000 in
theorem wd_205 : am_wok (true, (Jvm.Cond.fieldLinkNest "OrderMerge$Reader" (150 : Nat) "OrderMerge$Facts" "mood" "I" "OrderMerge")) := wd_n (tb_1 (i := 53) rfl) rfl
set_option maxRecDepth 100000 in
theorem wd_206 : am_wok (true, (Jvm.Cond.fieldLinkNest "OrderMerge" (213 : Nat) "OrderMerge$Facts" "mood" "I" "OrderMerge")) := wd_n (tb_1 (i := 54) rfl) rfl
set_option maxRecDepth 100000 in
theorem wd_207 : am_wok (false, (Jvm.Cond.fieldLink "OrderMerge$Facts" (9 : Nat) "OrderMerge$Facts" "parentCounts" "[I")) := wd_m (tb_1 (i := 55) rfl) rfl
set_option maxRecDepth 100000 in
theorem wd_208 : am_wok (false, (Jvm.Cond.fieldLink "OrderMerge$Facts" (15 : Nat) "OrderMerge$Facts" "parents" "[I")) := wd_m (tb_1 (i := 56) rfl) rfl
set_option maxRecDepth 100000 in
theorem wd_209 : am_wok (false, (Jvm.Cond.fieldLink "OrderMerge$Facts" (18 : Nat) "OrderMerge$Facts" "definitions" "[I")) := wd_m (tb_1 (i := 57) rfl) rfl
set_option maxRecDepth 100000 in
theorem wd_210 : am_wok (false, (Jvm.Cond.lays "OrderMerge$Facts" "OrderMerge$Facts" "classes" "I")) := wd_m (tb_1 (i := 58) rfl) rfl
set_option maxRecDepth 100000 in
theorem wd_212 : am_wok (false, (Jvm.Cond.lays "OrderMerge$Facts" "OrderMerge$Facts" "mood" "I")) := wd_m (tb_1 (i := 60) rfl) rfl
set_option maxRecDepth 100000 in
theorem wd_214 : am_wok (false, (Jvm.Cond.laysFinal "OrderMerge$Facts" "OrderMerge$Facts" "parentCounts" "[I")) := wd_m (tb_1 (i := 62) rfl) rfl
set_option maxRecDepth 100000 in
theorem wd_216 : am_wok (false, (Jvm.Cond.laysFinal "OrderMerge$Facts" "OrderMerge$Facts" "parents" "[I")) := wd_m (tb_1 (i := 64) rfl) rfl
set_option maxRecDepth 100000 in
theorem wd_218 : am_wok (false, (Jvm.Cond.laysFinal "OrderMerge$Facts" "OrderMerge$Facts" "definitions" "[I")) := wd_m (tb_1 (i := 66) rfl) rfl
set_option maxRecDepth 100000 in
theorem wd_221 : am_wok (false, (Jvm.Cond.arrayClass Jvm.ClassFile.FieldType.byte)) := wd_m (tb_1 (i := 69) rfl) rfl
set_option maxRecDepth 100000 in
theorem wd_222 : am_wok (false, (Jvm.Cond.arrayClass Jvm.ClassFile.FieldType.int)) := wd_m (tb_1 (i := 70) rfl) rfl
set_option maxRecDepth 100000 in
theorem wd_223 : am_wok (false, (Jvm.Cond.fieldLink "OrderMerge$Reader" (28 : Nat) "OrderMerge$Reader" "text" "[B")) := wd_m (tb_1 (i := 71) rfl) rfl
set_option maxRecDepth 100000 in
theorem wd_224 : am_wok (false, (Jvm.Cond.fieldLink "OrderMerge$Reader" (41 : Nat) "OrderMerge$Reader" "length" "I")) := wd_m (tb_1 (i := 72) rfl) rfl
set_option maxRecDepth 100000 in
theorem wd_225 : am_wok (false, (Jvm.Cond.fieldLink "OrderMerge$Reader" (9 : Nat) "OrderMerge$Reader" "tokens" "[I")) := wd_m (tb_1 (i := 73) rfl) rfl
set_option maxRecDepth 100000 in
theorem wd_226 : am_wok (false, (Jvm.Cond.fieldLink "OrderMerge$Reader" (15 : Nat) "OrderMerge$Reader" "starts" "[I")) := wd_m (tb_1 (i := 74) rfl) rfl
set_option maxRecDepth 100000 in
theorem wd_227 : am_wok (false, (Jvm.Cond.fieldLink "OrderMerge$Reader" (95 : Nat) "OrderMerge$Reader" "tokenCount" "I")) := wd_m (tb_1 (i := 75) rfl) rfl
set_option maxRecDepth 100000 in
theorem wd_228 : am_wok (false, (Jvm.Cond.fieldLink "OrderMerge$Reader" (66 : Nat) "OrderMerge$Reader" "at" "I")) := wd_m (tb_1 (i := 76) rfl) rfl
set_option maxRecDepth 100000 in
theorem wd_229 : am_wok (false, (Jvm.Cond.fieldLink "OrderMerge$Reader" (79 : Nat) "OrderMerge$Reader" "token" "I")) := wd_m (tb_1 (i := 77) rfl) rfl
set_option maxRecDepth 100000 in
theorem wd_230 : am_wok (false, (Jvm.Cond.fieldLink "OrderMerge$Reader" (45 : Nat) "OrderMerge$Reader" "fault" "I")) := wd_m (tb_1 (i := 78) rfl) rfl
set_option maxRecDepth 100000 in
theorem wd_231 : am_wok (true, (Jvm.Cond.fieldLinkNest "OrderMerge" (126 : Nat) "OrderMerge$Reader" "fault" "I" "OrderMerge")) := wd_n (tb_1 (i := 79) rfl) rfl
set_option maxRecDepth 100000 in
theorem wd_232 : am_wok (false, (Jvm.Cond.fieldLink "OrderMerge$Reader" (48 : Nat) "OrderMerge$Reader" "faultPlace" "I")) := wd_m (tb_1 (i := 80) rfl) rfl
set_option maxRecDepth 100000 in
theorem wd_233 : am_wok (true, (Jvm.Cond.fieldLinkNest "OrderMerge" (132 : Nat) "OrderMerge$Reader" "faultPlace" "I" "OrderMerge")) := wd_n (tb_1 (i := 81) rfl) rfl
set_option maxRecDepth 100000 in
theorem wd_234 : am_wok (false, (Jvm.Cond.fieldLink "OrderMerge$Reader" (21 : Nat) "OrderMerge$Reader" "facts" "LOrderMerge$Facts;")) := wd_m (tb_1 (i := 82) rfl) rfl
set_option maxRecDepth 100000 in
theorem wd_235 : am_wok (false, (Jvm.Cond.fieldLink "OrderMerge$Reader" (54 : Nat) "OrderMerge$Reader" "lines" "I")) := wd_m (tb_1 (i := 83) rfl) rfl
set_option maxRecDepth 100000 in
theorem wd_236 : am_wok (false, (Jvm.Cond.fieldLink "OrderMerge$Reader" (57 : Nat) "OrderMerge$Reader" "says" "[I")) := wd_m (tb_1 (i := 84) rfl) rfl
set_option maxRecDepth 100000 in
theorem wd_237 : am_wok (false, (Jvm.Cond.fieldLink "OrderMerge$Reader" (60 : Nat) "OrderMerge$Reader" "seen" "[I")) := wd_m (tb_1 (i := 85) rfl) rfl
set_option maxRecDepth 100000 in
theorem wd_238 : am_wok (false, (Jvm.Cond.fieldLink "OrderMerge$Reader" (25 : Nat) "OrderMerge$Reader" "code" "[I")) := wd_m (tb_1 (i := 86) rfl) rfl
set_option maxRecDepth 100000 in
theorem wd_239 : am_wok (false, (Jvm.Cond.fieldLink "OrderMerge$Reader" (186 : Nat) "OrderMerge$Reader" "codeSize" "I")) := wd_m (tb_1 (i := 87) rfl) rfl
set_option maxRecDepth 100000 in
theorem wd_240 : am_wok (false, (Jvm.Cond.fieldLink "OrderMerge$Reader" (182 : Nat) "OrderMerge$Reader" "readsSays" "Z")) := wd_m (tb_1 (i := 88) rfl) rfl
set_option maxRecDepth 100000 in
theorem wd_241 : am_wok (false, (Jvm.Cond.fieldLink "OrderMerge$Reader" (189 : Nat) "OrderMerge$Reader" "nested" "I")) := wd_m (tb_1 (i := 89) rfl) rfl
set_option maxRecDepth 100000 in
theorem wd_242 : am_wok (false, (Jvm.Cond.lays "OrderMerge$Reader" "OrderMerge$Reader" "text" "[B")) := wd_m (tb_1 (i := 90) rfl) rfl
set_option maxRecDepth 100000 in
theorem wd_244 : am_wok (false, (Jvm.Cond.lays "OrderMerge$Reader" "OrderMerge$Reader" "length" "I")) := wd_m (tb_1 (i := 92) rfl) rfl
set_option maxRecDepth 100000 in
theorem wd_246 : am_wok (false, (Jvm.Cond.laysFinal "OrderMerge$Reader" "OrderMerge$Reader" "tokens" "[I")) := wd_m (tb_1 (i := 94) rfl) rfl
set_option maxRecDepth 100000 in
theorem wd_248 : am_wok (false, (Jvm.Cond.laysFinal "OrderMerge$Reader" "OrderMerge$Reader" "starts" "[I")) := wd_m (tb_1 (i := 96) rfl) rfl
set_option maxRecDepth 100000 in
theorem wd_250 : am_wok (false, (Jvm.Cond.lays "OrderMerge$Reader" "OrderMerge$Reader" "tokenCount" "I")) := wd_m (tb_1 (i := 98) rfl) rfl
set_option maxRecDepth 100000 in
theorem wd_252 : am_wok (false, (Jvm.Cond.lays "OrderMerge$Reader" "OrderMerge$Reader" "at" "I")) := wd_m (tb_1 (i := 100) rfl) rfl
set_option maxRecDepth 100000 in
theorem wd_254 : am_wok (false, (Jvm.Cond.lays "OrderMerge$Reader" "OrderMerge$Reader" "token" "I")) := wd_m (tb_1 (i := 102) rfl) rfl
set_option maxRecDepth 100000 in
theorem wd_256 : am_wok (false, (Jvm.Cond.lays "OrderMerge$Reader" "OrderMerge$Reader" "fault" "I")) := wd_m (tb_1 (i := 104) rfl) rfl
set_option maxRecDepth 100000 in
theorem wd_258 : am_wok (false, (Jvm.Cond.lays "OrderMerge$Reader" "OrderMerge$Reader" "faultPlace" "I")) := wd_m (tb_1 (i := 106) rfl) rfl
set_option maxRecDepth 100000 in
theorem wd_260 : am_wok (false, (Jvm.Cond.laysFinal "OrderMerge$Reader" "OrderMerge$Reader" "facts" "LOrderMerge$Facts;")) := wd_m (tb_1 (i := 108) rfl) rfl
set_option maxRecDepth 100000 in
theorem wd_262 : am_wok (false, (Jvm.Cond.lays "OrderMerge$Reader" "OrderMerge$Reader" "lines" "I")) := wd_m (tb_1 (i := 110) rfl) rfl
set_option maxRecDepth 100000 in
theorem wd_264 : am_wok (false, (Jvm.Cond.lays "OrderMerge$Reader" "OrderMerge$Reader" "says" "[I")) := wd_m (tb_1 (i := 112) rfl) rfl
set_option maxRecDepth 100000 in
theorem wd_266 : am_wok (false, (Jvm.Cond.lays "OrderMerge$Reader" "OrderMerge$Reader" "seen" "[I")) := wd_m (tb_1 (i := 114) rfl) rfl
set_option maxRecDepth 100000 in
theorem wd_268 : am_wok (false, (Jvm.Cond.laysFinal "OrderMerge$Reader" "OrderMerge$Reader" "code" "[I")) := wd_m (tb_1 (i := 116) rfl) rfl
set_option maxRecDepth 100000 in
theorem wd_270 : am_wok (false, (Jvm.Cond.lays "OrderMerge$Reader" "OrderMerge$Reader" "codeSize" "I")) := wd_m (tb_1 (i := 118) rfl) rfl
set_option maxRecDepth 100000 in
theorem wd_272 : am_wok (false, (Jvm.Cond.lays "OrderMerge$Reader" "OrderMerge$Reader" "readsSays" "Z")) := wd_m (tb_1 (i := 120) rfl) rfl
set_option maxRecDepth 100000 in
theorem wd_274 : am_wok (false, (Jvm.Cond.lays "OrderMerge$Reader" "OrderMerge$Reader" "nested" "I")) := wd_m (tb_1 (i := 122) rfl) rfl
set_option maxRecDepth 100000 in
theorem wd_277 : am_wok (false, (Jvm.Cond.classLink "OrderMerge" (24 : Nat) "OrderMerge$House")) := wd_m (tb_1 (i := 125) rfl) rfl
set_option maxRecDepth 100000 in
theorem wd_278 : am_wok (false, (Jvm.Cond.instantiable "OrderMerge$House" (4 : Nat))) := wd_m (tb_1 (i := 126) rfl) rfl
set_option maxRecDepth 100000 in
theorem wd_279 : am_wok (true, (Jvm.Cond.methodLinkNest "OrderMerge" (26 : Nat) ({ cls := "OrderMerge$House", name := "<init>", desc := "()V" } : Jvm.MethodName) "OrderMerge")) := wd_n (tb_1 (i := 127) rfl) rfl
set_option maxRecDepth 100000 in
theorem wd_280 : am_wok (false, (Jvm.Cond.instanceMethod ({ cls := "OrderMerge$House", name := "<init>", desc := "()V" } : Jvm.MethodName))) := wd_m (tb_1 (i := 128) rfl) rfl
set_option maxRecDepth 100000 in
theorem wd_281 : am_wok (false, (Jvm.Cond.code ({ cls := "OrderMerge$House", name := "<init>", desc := "()V" } : Jvm.MethodName) prog_4_method_1_code (1 : Nat) (Option.none : Option Jvm.ClassFile.FieldType))) := wd_m (tb_1 (i := 129) rfl) rfl
set_option maxRecDepth 100000 in
theorem wd_282 : am_wok (false, (Jvm.Cond.methodLink "OrderMerge$House" (1 : Nat) ({ cls := "java/lang/Object", name := "<init>", desc := "()V" } : Jvm.MethodName))) := wd_m (tb_1 (i := 130) rfl) rfl
set_option maxRecDepth 100000 in
theorem wd_283 : am_wok (false, (Jvm.Cond.classLink "OrderMerge$House" (7 : Nat) "OrderMerge$Facts")) := wd_m (tb_1 (i := 131) rfl) rfl
set_option maxRecDepth 100000 in
theorem wd_284 : am_wok (true, (Jvm.Cond.methodLinkNest "OrderMerge$House" (9 : Nat) ({ cls := "OrderMerge$Facts", name := "<init>", desc := "()V" } : Jvm.MethodName) "OrderMerge")) := wd_n (tb_1 (i := 132) rfl) rfl
set_option maxRecDepth 100000 in
theorem wd_285 : am_wok (false, (Jvm.Cond.fieldLink "OrderMerge$House" (10 : Nat) "OrderMerge$House" "facts" "LOrderMerge$Facts;")) := wd_m (tb_1 (i := 133) rfl) rfl
set_option maxRecDepth 100000 in
theorem wd_286 : am_wok (true, (Jvm.Cond.fieldLinkNest "OrderMerge" (57 : Nat) "OrderMerge$House" "facts" "LOrderMerge$Facts;" "OrderMerge")) := wd_n (tb_1 (i := 134) rfl) rfl
set_option maxRecDepth 100000 in
theorem wd_287 : am_wok (true, (Jvm.Cond.fieldLinkNest "OrderMerge$Voice" (58 : Nat) "OrderMerge$House" "facts" "LOrderMerge$Facts;" "OrderMerge")) := wd_n (tb_1 (i := 135) rfl) rfl
set_option maxRecDepth 100000 in
theorem wd_288 : am_wok (true, (Jvm.Cond.fieldLinkNest "OrderMerge$Reader" (85 : Nat) "OrderMerge$House" "facts" "LOrderMerge$Facts;" "OrderMerge")) := wd_n (tb_1 (i := 136) rfl) rfl
set_option maxRecDepth 100000 in
theorem wd_289 : am_wok (false, (Jvm.Cond.fieldLink "OrderMerge$House" (20 : Nat) "OrderMerge$House" "says" "[I")) := wd_m (tb_1 (i := 137) rfl) rfl
set_option maxRecDepth 100000 in
theorem wd_290 : am_wok (true, (Jvm.Cond.fieldLinkNest "OrderMerge$Reader" (92 : Nat) "OrderMerge$House" "says" "[I" "OrderMerge")) := wd_n (tb_1 (i := 138) rfl) rfl
set_option maxRecDepth 100000 in
theorem wd_291 : am_wok (true, (Jvm.Cond.fieldLinkNest "OrderMerge$Voice" (92 : Nat) "OrderMerge$House" "says" "[I" "OrderMerge")) := wd_n (tb_1 (i := 139) rfl) rfl
set_option maxRecDepth 100000 in
theorem wd_292 : am_wok (false, (Jvm.Cond.fieldLink "OrderMerge$House" (24 : Nat) "OrderMerge$House" "seen" "[I")) := wd_m (tb_1 (i := 140) rfl) rfl
set_option maxRecDepth 100000 in
theorem wd_293 : am_wok (true, (Jvm.Cond.fieldLinkNest "OrderMerge$Voice" (69 : Nat) "OrderMerge$House" "seen" "[I" "OrderMerge")) := wd_n (tb_1 (i := 141) rfl) rfl
set_option maxRecDepth 100000 in
theorem wd_294 : am_wok (true, (Jvm.Cond.fieldLinkNest "OrderMerge$Reader" (93 : Nat) "OrderMerge$House" "seen" "[I" "OrderMerge")) := wd_n (tb_1 (i := 142) rfl) rfl
set_option maxRecDepth 100000 in
theorem wd_295 : am_wok (false, (Jvm.Cond.fieldLink "OrderMerge$House" (27 : Nat) "OrderMerge$House" "lines" "I")) := wd_m (tb_1 (i := 143) rfl) rfl
set_option maxRecDepth 100000 in
theorem wd_296 : am_wok (true, (Jvm.Cond.fieldLinkNest "OrderMerge$Reader" (94 : Nat) "OrderMerge$House" "lines" "I" "OrderMerge")) := wd_n (tb_1 (i := 144) rfl) rfl
set_option maxRecDepth 100000 in
theorem wd_297 : am_wok (true, (Jvm.Cond.fieldLinkNest "OrderMerge" (145 : Nat) "OrderMerge$House" "lines" "I" "OrderMerge")) := wd_n (tb_1 (i := 145) rfl) rfl
set_option maxRecDepth 100000 in
theorem wd_298 : am_wok (false, (Jvm.Cond.laysFinal "OrderMerge$House" "OrderMerge$House" "facts" "LOrderMerge$Facts;")) := wd_m (tb_1 (i := 146) rfl) rfl
set_option maxRecDepth 100000 in
theorem wd_300 : am_wok (false, (Jvm.Cond.lays "OrderMerge$House" "OrderMerge$House" "says" "[I")) := wd_m (tb_1 (i := 148) rfl) rfl
set_option maxRecDepth 100000 in
theorem wd_302 : am_wok (false, (Jvm.Cond.lays "OrderMerge$House" "OrderMerge$House" "seen" "[I")) := wd_m (tb_1 (i := 150) rfl) rfl
set_option maxRecDepth 100000 in
theorem wd_304 : am_wok (false, (Jvm.Cond.lays "OrderMerge$House" "OrderMerge$House" "lines" "I")) := wd_m (tb_1 (i := 152) rfl) rfl
set_option maxRecDepth 100000 in
theorem wd_307 : am_wok (false, (Jvm.Cond.classLink "OrderMerge" (31 : Nat) "OrderMerge$Orders")) := wd_m (tb_1 (i := 155) rfl) rfl
set_option maxRecDepth 100000 in
theorem wd_308 : am_wok (false, (Jvm.Cond.instantiable "OrderMerge$Orders" (9 : Nat))) := wd_m (tb_1 (i := 156) rfl) rfl
set_option maxRecDepth 100000 in
theorem wd_309 : am_wok (true, (Jvm.Cond.methodLinkNest "OrderMerge" (33 : Nat) ({ cls := "OrderMerge$Orders", name := "<init>", desc := "()V" } : Jvm.MethodName) "OrderMerge")) := wd_n (tb_1 (i := 157) rfl) rfl
set_option maxRecDepth 100000 in
theorem wd_310 : am_wok (false, (Jvm.Cond.instanceMethod ({ cls := "OrderMerge$Orders", name := "<init>", desc := "()V" } : Jvm.MethodName))) := wd_m (tb_1 (i := 158) rfl) rfl
set_option maxRecDepth 100000 in
theorem wd_311 : am_wok (false, (Jvm.Cond.code ({ cls := "OrderMerge$Orders", name := "<init>", desc := "()V" } : Jvm.MethodName) prog_8_method_1_code (1 : Nat) (Option.none : Option Jvm.ClassFile.FieldType))) := wd_m (tb_1 (i := 159) rfl) rfl
set_option maxRecDepth 100000 in
theorem wd_312 : am_wok (false, (Jvm.Cond.methodLink "OrderMerge$Orders" (3 : Nat) ({ cls := "java/lang/Object", name := "<init>", desc := "()V" } : Jvm.MethodName))) := wd_m (tb_1 (i := 160) rfl) rfl
set_option maxRecDepth 100000 in
theorem wd_313 : am_wok (false, (Jvm.Cond.fieldLink "OrderMerge$Orders" (11 : Nat) "OrderMerge$Orders" "states" "[I")) := wd_m (tb_1 (i := 161) rfl) rfl
set_option maxRecDepth 100000 in
theorem wd_314 : am_wok (false, (Jvm.Cond.fieldLink "OrderMerge$Orders" (15 : Nat) "OrderMerge$Orders" "sizes" "[I")) := wd_m (tb_1 (i := 162) rfl) rfl
set_option maxRecDepth 100000 in
theorem wd_315 : am_wok (false, (Jvm.Cond.fieldLink "OrderMerge$Orders" (18 : Nat) "OrderMerge$Orders" "rows" "[I")) := wd_m (tb_1 (i := 163) rfl) rfl
set_option maxRecDepth 100000 in
theorem wd_316 : am_wok (false, (Jvm.Cond.fieldLink "OrderMerge$Orders" (21 : Nat) "OrderMerge$Orders" "kin" "[I")) := wd_m (tb_1 (i := 164) rfl) rfl
set_option maxRecDepth 100000 in
theorem wd_317 : am_wok (false, (Jvm.Cond.fieldLink "OrderMerge$Orders" (24 : Nat) "OrderMerge$Orders" "merged" "[I")) := wd_m (tb_1 (i := 165) rfl) rfl
set_option maxRecDepth 100000 in
theorem wd_318 : am_wok (false, (Jvm.Cond.fieldLink "OrderMerge$Orders" (27 : Nat) "OrderMerge$Orders" "mergedSizes" "[I")) := wd_m (tb_1 (i := 166) rfl) rfl
set_option maxRecDepth 100000 in
theorem wd_319 : am_wok (false, (Jvm.Cond.fieldLink "OrderMerge$Orders" (30 : Nat) "OrderMerge$Orders" "taken" "[I")) := wd_m (tb_1 (i := 167) rfl) rfl
set_option maxRecDepth 100000 in
theorem wd_320 : am_wok (false, (Jvm.Cond.fieldLink "OrderMerge$Orders" (33 : Nat) "OrderMerge$Orders" "firsts" "[I")) := wd_m (tb_1 (i := 168) rfl) rfl
set_option maxRecDepth 100000 in
theorem wd_321 : am_wok (false, (Jvm.Cond.fieldLink "OrderMerge$Orders" (36 : Nat) "OrderMerge$Orders" "tails" "[I")) := wd_m (tb_1 (i := 169) rfl) rfl
set_option maxRecDepth 100000 in
theorem wd_322 : am_wok (false, (Jvm.Cond.laysFinal "OrderMerge$Orders" "OrderMerge$Orders" "states" "[I")) := wd_m (tb_1 (i := 170) rfl) rfl
set_option maxRecDepth 100000 in
theorem wd_324 : am_wok (false, (Jvm.Cond.laysFinal "OrderMerge$Orders" "OrderMerge$Orders" "sizes" "[I")) := wd_m (tb_1 (i := 172) rfl) rfl
set_option maxRecDepth 100000 in
theorem wd_326 : am_wok (false, (Jvm.Cond.laysFinal "OrderMerge$Orders" "OrderMerge$Orders" "rows" "[I")) := wd_m (tb_1 (i := 174) rfl) rfl
set_option maxRecDepth 100000 in
theorem wd_328 : am_wok (false, (Jvm.Cond.laysFinal "OrderMerge$Orders" "OrderMerge$Orders" "kin" "[I")) := wd_m (tb_1 (i := 176) rfl) rfl
set_option maxRecDepth 100000 in
theorem wd_330 : am_wok (false, (Jvm.Cond.laysFinal "OrderMerge$Orders" "OrderMerge$Orders" "merged" "[I")) := wd_m (tb_1 (i := 178) rfl) rfl
set_option maxRecDepth 100000 in
theorem wd_332 : am_wok (false, (Jvm.Cond.laysFinal "OrderMerge$Orders" "OrderMerge$Orders" "mergedSizes" "[I")) := wd_m (tb_1 (i := 180) rfl) rfl
set_option maxRecDepth 100000 in
theorem wd_334 : am_wok (false, (Jvm.Cond.laysFinal "OrderMerge$Orders" "OrderMerge$Orders" "taken" "[I")) := wd_m (tb_1 (i := 182) rfl) rfl
set_option maxRecDepth 100000 in
theorem wd_336 : am_wok (false, (Jvm.Cond.laysFinal "OrderMerge$Orders" "OrderMerge$Orders" "firsts" "[I")) := wd_m (tb_1 (i := 184) rfl) rfl
set_option maxRecDepth 100000 in
theorem wd_338 : am_wok (false, (Jvm.Cond.laysFinal "OrderMerge$Orders" "OrderMerge$Orders" "tails" "[I")) := wd_m (tb_1 (i := 186) rfl) rfl
set_option maxRecDepth 100000 in
theorem wd_341 : am_wok (false, (Jvm.Cond.classLink "OrderMerge" (38 : Nat) "OrderMerge$Past")) := wd_m (tb_1 (i := 189) rfl) rfl
set_option maxRecDepth 100000 in
theorem wd_342 : am_wok (false, (Jvm.Cond.instantiable "OrderMerge$Past" (3 : Nat))) := wd_m (tb_1 (i := 190) rfl) rfl
set_option maxRecDepth 100000 in
theorem wd_343 : am_wok (true, (Jvm.Cond.methodLinkNest "OrderMerge" (40 : Nat) ({ cls := "OrderMerge$Past", name := "<init>", desc := "()V" } : Jvm.MethodName) "OrderMerge")) := wd_n (tb_1 (i := 191) rfl) rfl
set_option maxRecDepth 100000 in
theorem wd_344 : am_wok (false, (Jvm.Cond.instanceMethod ({ cls := "OrderMerge$Past", name := "<init>", desc := "()V" } : Jvm.MethodName))) := wd_m (tb_1 (i := 192) rfl) rfl
set_option maxRecDepth 100000 in
theorem wd_345 : am_wok (false, (Jvm.Cond.code ({ cls := "OrderMerge$Past", name := "<init>", desc := "()V" } : Jvm.MethodName) prog_9_method_1_code (1 : Nat) (Option.none : Option Jvm.ClassFile.FieldType))) := wd_m (tb_1 (i := 193) rfl) rfl
set_option maxRecDepth 100000 in
theorem wd_346 : am_wok (false, (Jvm.Cond.methodLink "OrderMerge$Past" (3 : Nat) ({ cls := "java/lang/Object", name := "<init>", desc := "()V" } : Jvm.MethodName))) := wd_m (tb_1 (i := 194) rfl) rfl
set_option maxRecDepth 100000 in
theorem wd_347 : am_wok (false, (Jvm.Cond.classLink "OrderMerge$Past" (9 : Nat) "OrderMerge$Facts")) := wd_m (tb_1 (i := 195) rfl) rfl
set_option maxRecDepth 100000 in
theorem wd_349 : am_wok (false, (Jvm.Cond.fieldLink "OrderMerge$Past" (11 : Nat) "OrderMerge$Past" "rows" "[LOrderMerge$Facts;")) := wd_m (tb_1 (i := 197) rfl) rfl
set_option maxRecDepth 100000 in
theorem wd_350 : am_wok (false, (Jvm.Cond.fieldLink "OrderMerge$Past" (21 : Nat) "OrderMerge$Past" "eldest" "I")) := wd_m (tb_1 (i := 198) rfl) rfl
set_option maxRecDepth 100000 in
theorem wd_351 : am_wok (false, (Jvm.Cond.fieldLink "OrderMerge$Past" (17 : Nat) "OrderMerge$Past" "size" "I")) := wd_m (tb_1 (i := 199) rfl) rfl
set_option maxRecDepth 100000 in
theorem wd_352 : am_wok (true, (Jvm.Cond.fieldLinkNest "OrderMerge" (216 : Nat) "OrderMerge$Past" "size" "I" "OrderMerge")) := wd_n (tb_1 (i := 200) rfl) rfl
set_option maxRecDepth 100000 in
theorem wd_353 : am_wok (false, (Jvm.Cond.laysFinal "OrderMerge$Past" "OrderMerge$Past" "rows" "[LOrderMerge$Facts;")) := wd_m (tb_1 (i := 201) rfl) rfl
set_option maxRecDepth 100000 in
theorem wd_355 : am_wok (false, (Jvm.Cond.lays "OrderMerge$Past" "OrderMerge$Past" "eldest" "I")) := wd_m (tb_1 (i := 203) rfl) rfl
set_option maxRecDepth 100000 in
theorem wd_357 : am_wok (false, (Jvm.Cond.lays "OrderMerge$Past" "OrderMerge$Past" "size" "I")) := wd_m (tb_1 (i := 205) rfl) rfl
set_option maxRecDepth 100000 in
theorem wd_360 : am_wok (false, (Jvm.Cond.classLink "OrderMerge" (45 : Nat) "OrderMerge$Facts")) := wd_m (tb_1 (i := 208) rfl) rfl
set_option maxRecDepth 100000 in
theorem wd_361 : am_wok (true, (Jvm.Cond.methodLinkNest "OrderMerge" (47 : Nat) ({ cls := "OrderMerge$Facts", name := "<init>", desc := "()V" } : Jvm.MethodName) "OrderMerge")) := wd_n (tb_1 (i := 209) rfl) rfl
set_option maxRecDepth 100000 in
theorem wd_362 : am_wok (false, (Jvm.Cond.classLink "OrderMerge" (55 : Nat) "OrderMerge$Demands")) := wd_m (tb_1 (i := 210) rfl) rfl
set_option maxRecDepth 100000 in
theorem wd_363 : am_wok (false, (Jvm.Cond.instantiable "OrderMerge$Demands" (9 : Nat))) := wd_m (tb_1 (i := 211) rfl) rfl
set_option maxRecDepth 100000 in
theorem wd_364 : am_wok (false, (Jvm.Cond.methodLink "OrderMerge" (60 : Nat) ({ cls := "OrderMerge$Demands", name := "<init>", desc := "(LOrderMerge$Facts;LOrderMerge$Orders;)V" } : Jvm.MethodName))) := wd_m (tb_1 (i := 212) rfl) rfl
set_option maxRecDepth 100000 in
theorem wd_365 : am_wok (false, (Jvm.Cond.instanceMethod ({ cls := "OrderMerge$Demands", name := "<init>", desc := "(LOrderMerge$Facts;LOrderMerge$Orders;)V" } : Jvm.MethodName))) := wd_m (tb_1 (i := 213) rfl) rfl
set_option maxRecDepth 100000 in
theorem wd_366 : am_wok (false, (Jvm.Cond.code ({ cls := "OrderMerge$Demands", name := "<init>", desc := "(LOrderMerge$Facts;LOrderMerge$Orders;)V" } : Jvm.MethodName) prog_2_method_1_code (3 : Nat) (Option.none : Option Jvm.ClassFile.FieldType))) := wd_m (tb_1 (i := 214) rfl) rfl
set_option maxRecDepth 100000 in
theorem wd_367 : am_wok (false, (Jvm.Cond.methodLink "OrderMerge$Demands" (3 : Nat) ({ cls := "java/lang/Object", name := "<init>", desc := "()V" } : Jvm.MethodName))) := wd_m (tb_1 (i := 215) rfl) rfl
set_option maxRecDepth 100000 in
theorem wd_368 : am_wok (false, (Jvm.Cond.fieldLink "OrderMerge$Demands" (27 : Nat) "OrderMerge$Demands" "facts" "LOrderMerge$Facts;")) := wd_m (tb_1 (i := 216) rfl) rfl
set_option maxRecDepth 100000 in
theorem wd_369 : am_wok (false, (Jvm.Cond.fieldLink "OrderMerge$Demands" (31 : Nat) "OrderMerge$Demands" "orders" "LOrderMerge$Orders;")) := wd_m (tb_1 (i := 217) rfl) rfl
set_option maxRecDepth 100000 in
theorem wd_370 : am_wok (false, (Jvm.Cond.fieldLink "OrderMerge$Demands" (47 : Nat) "OrderMerge$Demands" "members" "I")) := wd_m (tb_1 (i := 218) rfl) rfl
set_option maxRecDepth 100000 in
theorem wd_371 : am_wok (false, (Jvm.Cond.fieldLink "OrderMerge$Demands" (9 : Nat) "OrderMerge$Demands" "behind" "[I")) := wd_m (tb_1 (i := 219) rfl) rfl
set_option maxRecDepth 100000 in
theorem wd_372 : am_wok (false, (Jvm.Cond.fieldLink "OrderMerge$Demands" (15 : Nat) "OrderMerge$Demands" "ahead" "[I")) := wd_m (tb_1 (i := 220) rfl) rfl
set_option maxRecDepth 100000 in
theorem wd_373 : am_wok (false, (Jvm.Cond.fieldLink "OrderMerge$Demands" (18 : Nat) "OrderMerge$Demands" "distances" "[I")) := wd_m (tb_1 (i := 221) rfl) rfl
set_option maxRecDepth 100000 in
theorem wd_374 : am_wok (false, (Jvm.Cond.fieldLink "OrderMerge$Demands" (21 : Nat) "OrderMerge$Demands" "ringRow" "[I")) := wd_m (tb_1 (i := 222) rfl) rfl
set_option maxRecDepth 100000 in
theorem wd_375 : am_wok (false, (Jvm.Cond.fieldLink "OrderMerge$Demands" (87 : Nat) "OrderMerge$Demands" "ringSize" "I")) := wd_m (tb_1 (i := 223) rfl) rfl
set_option maxRecDepth 100000 in
theorem wd_376 : am_wok (false, (Jvm.Cond.fieldLink "OrderMerge$Demands" (24 : Nat) "OrderMerge$Demands" "endings" "[I")) := wd_m (tb_1 (i := 224) rfl) rfl
set_option maxRecDepth 100000 in
theorem wd_377 : am_wok (false, (Jvm.Cond.laysFinal "OrderMerge$Demands" "OrderMerge$Demands" "facts" "LOrderMerge$Facts;")) := wd_m (tb_1 (i := 225) rfl) rfl
set_option maxRecDepth 100000 in
theorem wd_379 : am_wok (false, (Jvm.Cond.laysFinal "OrderMerge$Demands" "OrderMerge$Demands" "orders" "LOrderMerge$Orders;")) := wd_m (tb_1 (i := 227) rfl) rfl
set_option maxRecDepth 100000 in
theorem wd_381 : am_wok (false, (Jvm.Cond.lays "OrderMerge$Demands" "OrderMerge$Demands" "members" "I")) := wd_m (tb_1 (i := 229) rfl) rfl
set_option maxRecDepth 100000 in
theorem wd_383 : am_wok (false, (Jvm.Cond.laysFinal "OrderMerge$Demands" "OrderMerge$Demands" "behind" "[I")) := wd_m (tb_1 (i := 231) rfl) rfl
set_option maxRecDepth 100000 in
theorem wd_385 : am_wok (false, (Jvm.Cond.laysFinal "OrderMerge$Demands" "OrderMerge$Demands" "ahead" "[I")) := wd_m (tb_1 (i := 233) rfl) rfl
set_option maxRecDepth 100000 in
theorem wd_387 : am_wok (false, (Jvm.Cond.laysFinal "OrderMerge$Demands" "OrderMerge$Demands" "distances" "[I")) := wd_m (tb_1 (i := 235) rfl) rfl
set_option maxRecDepth 100000 in
theorem wd_389 : am_wok (false, (Jvm.Cond.laysFinal "OrderMerge$Demands" "OrderMerge$Demands" "ringRow" "[I")) := wd_m (tb_1 (i := 237) rfl) rfl
set_option maxRecDepth 100000 in
theorem wd_391 : am_wok (false, (Jvm.Cond.lays "OrderMerge$Demands" "OrderMerge$Demands" "ringSize" "I")) := wd_m (tb_1 (i := 239) rfl) rfl
set_option maxRecDepth 100000 in
theorem wd_393 : am_wok (false, (Jvm.Cond.laysFinal "OrderMerge$Demands" "OrderMerge$Demands" "endings" "[I")) := wd_m (tb_2 (i := 1) rfl) rfl
set_option maxRecDepth 100000 in
theorem wd_396 : am_wok (false, (Jvm.Cond.classLink "OrderMerge" (67 : Nat) "OrderMerge$OldOrders")) := wd_m (tb_2 (i := 4) rfl) rfl
set_option maxRecDepth 100000 in
theorem wd_397 : am_wok (false, (Jvm.Cond.instantiable "OrderMerge$OldOrders" (3 : Nat))) := wd_m (tb_2 (i := 5) rfl) rfl
set_option maxRecDepth 100000 in
theorem wd_398 : am_wok (true, (Jvm.Cond.methodLinkNest "OrderMerge" (69 : Nat) ({ cls := "OrderMerge$OldOrders", name := "<init>", desc := "()V" } : Jvm.MethodName) "OrderMerge")) := wd_n (tb_2 (i := 6) rfl) rfl
set_option maxRecDepth 100000 in
theorem wd_399 : am_wok (false, (Jvm.Cond.instanceMethod ({ cls := "OrderMerge$OldOrders", name := "<init>", desc := "()V" } : Jvm.MethodName))) := wd_m (tb_2 (i := 7) rfl) rfl
set_option maxRecDepth 100000 in
theorem wd_400 : am_wok (false, (Jvm.Cond.code ({ cls := "OrderMerge$OldOrders", name := "<init>", desc := "()V" } : Jvm.MethodName) prog_7_method_1_code (1 : Nat) (Option.none : Option Jvm.ClassFile.FieldType))) := wd_m (tb_2 (i := 8) rfl) rfl
set_option maxRecDepth 100000 in
theorem wd_401 : am_wok (false, (Jvm.Cond.methodLink "OrderMerge$OldOrders" (3 : Nat) ({ cls := "java/lang/Object", name := "<init>", desc := "()V" } : Jvm.MethodName))) := wd_m (tb_2 (i := 9) rfl) rfl
set_option maxRecDepth 100000 in
theorem wd_402 : am_wok (false, (Jvm.Cond.fieldLink "OrderMerge$OldOrders" (9 : Nat) "OrderMerge$OldOrders" "sizes" "[I")) := wd_m (tb_2 (i := 10) rfl) rfl
set_option maxRecDepth 100000 in
theorem wd_403 : am_wok (false, (Jvm.Cond.fieldLink "OrderMerge$OldOrders" (15 : Nat) "OrderMerge$OldOrders" "rows" "[I")) := wd_m (tb_2 (i := 11) rfl) rfl
set_option maxRecDepth 100000 in
theorem wd_404 : am_wok (false, (Jvm.Cond.fieldLink "OrderMerge$OldOrders" (18 : Nat) "OrderMerge$OldOrders" "backwards" "[I")) := wd_m (tb_2 (i := 12) rfl) rfl
set_option maxRecDepth 100000 in
theorem wd_405 : am_wok (false, (Jvm.Cond.laysFinal "OrderMerge$OldOrders" "OrderMerge$OldOrders" "sizes" "[I")) := wd_m (tb_2 (i := 13) rfl) rfl
set_option maxRecDepth 100000 in
theorem wd_407 : am_wok (false, (Jvm.Cond.laysFinal "OrderMerge$OldOrders" "OrderMerge$OldOrders" "rows" "[I")) := wd_m (tb_2 (i := 15) rfl) rfl
set_option maxRecDepth 100000 in
theorem wd_409 : am_wok (false, (Jvm.Cond.laysFinal "OrderMerge$OldOrders" "OrderMerge$OldOrders" "backwards" "[I")) := wd_m (tb_2 (i := 17) rfl) rfl
set_option maxRecDepth 100000 in
theorem wd_412 : am_wok (false, (Jvm.Cond.classLink "OrderMerge" (74 : Nat) "OrderMerge$Voice")) := wd_m (tb_2 (i := 20) rfl) rfl
set_option maxRecDepth 100000 in
theorem wd_413 : am_wok (false, (Jvm.Cond.instantiable "OrderMerge$Voice" (14 : Nat))) := wd_m (tb_2 (i := 21) rfl) rfl
set_option maxRecDepth 100000 in
theorem wd_414 : am_wok (false, (Jvm.Cond.methodLink "OrderMerge" (76 : Nat) ({ cls := "OrderMerge$Voice", name := "<init>", desc := "(LOrderMerge$House;LOrderMerge$Orders;)V" } : Jvm.MethodName))) := wd_m (tb_2 (i := 22) rfl) rfl
set_option maxRecDepth 100000 in
theorem wd_415 : am_wok (false, (Jvm.Cond.instanceMethod ({ cls := "OrderMerge$Voice", name := "<init>", desc := "(LOrderMerge$House;LOrderMerge$Orders;)V" } : Jvm.MethodName))) := wd_m (tb_2 (i := 23) rfl) rfl
set_option maxRecDepth 100000 in
theorem wd_416 : am_wok (false, (Jvm.Cond.code ({ cls := "OrderMerge$Voice", name := "<init>", desc := "(LOrderMerge$House;LOrderMerge$Orders;)V" } : Jvm.MethodName) prog_12_method_1_code (3 : Nat) (Option.none : Option Jvm.ClassFile.FieldType))) := wd_m (tb_2 (i := 24) rfl) rfl
set_option maxRecDepth 100000 in
theorem wd_417 : am_wok (false, (Jvm.Cond.methodLink "OrderMerge$Voice" (3 : Nat) ({ cls := "java/lang/Object", name := "<init>", desc := "()V" } : Jvm.MethodName))) := wd_m (tb_2 (i := 25) rfl) rfl
set_option maxRecDepth 100000 in
theorem wd_418 : am_wok (false, (Jvm.Cond.fieldLink "OrderMerge$Voice" (24 : Nat) "OrderMerge$Voice" "house" "LOrderMerge$House;")) := wd_m (tb_2 (i := 26) rfl) rfl
set_option maxRecDepth 100000 in
theorem wd_419 : am_wok (false, (Jvm.Cond.fieldLink "OrderMerge$Voice" (28 : Nat) "OrderMerge$Voice" "orders" "LOrderMerge$Orders;")) := wd_m (tb_2 (i := 27) rfl) rfl
set_option maxRecDepth 100000 in
theorem wd_420 : am_wok (false, (Jvm.Cond.fieldLink "OrderMerge$Voice" (9 : Nat) "OrderMerge$Voice" "path" "[I")) := wd_m (tb_2 (i := 28) rfl) rfl
set_option maxRecDepth 100000 in
theorem wd_421 : am_wok (false, (Jvm.Cond.fieldLink "OrderMerge$Voice" (32 : Nat) "OrderMerge$Voice" "pathSize" "I")) := wd_m (tb_2 (i := 29) rfl) rfl
set_option maxRecDepth 100000 in
theorem wd_422 : am_wok (false, (Jvm.Cond.fieldLink "OrderMerge$Voice" (15 : Nat) "OrderMerge$Voice" "reached" "[I")) := wd_m (tb_2 (i := 30) rfl) rfl
set_option maxRecDepth 100000 in
theorem wd_423 : am_wok (false, (Jvm.Cond.fieldLink "OrderMerge$Voice" (18 : Nat) "OrderMerge$Voice" "answers" "[I")) := wd_m (tb_2 (i := 31) rfl) rfl
set_option maxRecDepth 100000 in
theorem wd_424 : am_wok (false, (Jvm.Cond.fieldLink "OrderMerge$Voice" (21 : Nat) "OrderMerge$Voice" "stack" "[I")) := wd_m (tb_2 (i := 32) rfl) rfl
set_option maxRecDepth 100000 in
theorem wd_425 : am_wok (false, (Jvm.Cond.fieldLink "OrderMerge$Voice" (125 : Nat) "OrderMerge$Voice" "top" "I")) := wd_m (tb_2 (i := 33) rfl) rfl
set_option maxRecDepth 100000 in
theorem wd_426 : am_wok (false, (Jvm.Cond.fieldLink "OrderMerge$Voice" (39 : Nat) "OrderMerge$Voice" "method" "I")) := wd_m (tb_2 (i := 34) rfl) rfl
set_option maxRecDepth 100000 in
theorem wd_427 : am_wok (false, (Jvm.Cond.fieldLink "OrderMerge$Voice" (55 : Nat) "OrderMerge$Voice" "owner" "I")) := wd_m (tb_2 (i := 35) rfl) rfl
set_option maxRecDepth 100000 in
theorem wd_428 : am_wok (false, (Jvm.Cond.fieldLink "OrderMerge$Voice" (36 : Nat) "OrderMerge$Voice" "caller" "I")) := wd_m (tb_2 (i := 36) rfl) rfl
set_option maxRecDepth 100000 in
theorem wd_429 : am_wok (false, (Jvm.Cond.fieldLink "OrderMerge$Voice" (42 : Nat) "OrderMerge$Voice" "mood" "I")) := wd_m (tb_2 (i := 37) rfl) rfl
set_option maxRecDepth 100000 in
theorem wd_430 : am_wok (false, (Jvm.Cond.fieldLink "OrderMerge$Voice" (81 : Nat) "OrderMerge$Voice" "next" "I")) := wd_m (tb_2 (i := 38) rfl) rfl
set_option maxRecDepth 100000 in
theorem wd_431 : am_wok (false, (Jvm.Cond.fieldLink "OrderMerge$Voice" (89 : Nat) "OrderMerge$Voice" "depth" "I")) := wd_m (tb_2 (i := 39) rfl) rfl
set_option maxRecDepth 100000 in
theorem wd_432 : am_wok (false, (Jvm.Cond.laysFinal "OrderMerge$Voice" "OrderMerge$Voice" "house" "LOrderMerge$House;")) := wd_m (tb_2 (i := 40) rfl) rfl
set_option maxRecDepth 100000 in
theorem wd_434 : am_wok (false, (Jvm.Cond.laysFinal "OrderMerge$Voice" "OrderMerge$Voice" "orders" "LOrderMerge$Orders;")) := wd_m (tb_2 (i := 42) rfl) rfl
set_option maxRecDepth 100000 in
theorem wd_436 : am_wok (false, (Jvm.Cond.laysFinal "OrderMerge$Voice" "OrderMerge$Voice" "path" "[I")) := wd_m (tb_2 (i := 44) rfl) rfl
set_option maxRecDepth 100000 in
theorem wd_438 : am_wok (false, (Jvm.Cond.lays "OrderMerge$Voice" "OrderMerge$Voice" "pathSize" "I")) := wd_m (tb_2 (i := 46) rfl) rfl
set_option maxRecDepth 100000 in
theorem wd_440 : am_wok (false, (Jvm.Cond.laysFinal "OrderMerge$Voice" "OrderMerge$Voice" "reached" "[I")) := wd_m (tb_2 (i := 48) rfl) rfl
set_option maxRecDepth 100000 in
theorem wd_442 : am_wok (false, (Jvm.Cond.laysFinal "OrderMerge$Voice" "OrderMerge$Voice" "answers" "[I")) := wd_m (tb_2 (i := 50) rfl) rfl
set_option maxRecDepth 100000 in
theorem wd_444 : am_wok (false, (Jvm.Cond.laysFinal "OrderMerge$Voice" "OrderMerge$Voice" "stack" "[I")) := wd_m (tb_2 (i := 52) rfl) rfl
set_option maxRecDepth 100000 in
theorem wd_446 : am_wok (false, (Jvm.Cond.lays "OrderMerge$Voice" "OrderMerge$Voice" "top" "I")) := wd_m (tb_2 (i := 54) rfl) rfl
set_option maxRecDepth 100000 in
theorem wd_448 : am_wok (false, (Jvm.Cond.lays "OrderMerge$Voice" "OrderMerge$Voice" "method" "I")) := wd_m (tb_2 (i := 56) rfl) rfl
set_option maxRecDepth 100000 in
theorem wd_450 : am_wok (false, (Jvm.Cond.lays "OrderMerge$Voice" "OrderMerge$Voice" "owner" "I")) := wd_m (tb_2 (i := 58) rfl) rfl
set_option maxRecDepth 100000 in
theorem wd_452 : am_wok (false, (Jvm.Cond.lays "OrderMerge$Voice" "OrderMerge$Voice" "caller" "I")) := wd_m (tb_2 (i := 60) rfl) rfl
set_option maxRecDepth 100000 in
theorem wd_454 : am_wok (false, (Jvm.Cond.lays "OrderMerge$Voice" "OrderMerge$Voice" "mood" "I")) := wd_m (tb_2 (i := 62) rfl) rfl
set_option maxRecDepth 100000 in
theorem wd_456 : am_wok (false, (Jvm.Cond.lays "OrderMerge$Voice" "OrderMerge$Voice" "next" "I")) := wd_m (tb_2 (i := 64) rfl) rfl
set_option maxRecDepth 100000 in
theorem wd_458 : am_wok (false, (Jvm.Cond.lays "OrderMerge$Voice" "OrderMerge$Voice" "depth" "I")) := wd_m (tb_2 (i := 66) rfl) rfl
set_option maxRecDepth 100000 in
theorem wd_461 : am_wok (false, (Jvm.Cond.classLink "OrderMerge" (83 : Nat) "OrderMerge$Mender")) := wd_m (tb_2 (i := 69) rfl) rfl
set_option maxRecDepth 100000 in
theorem wd_462 : am_wok (false, (Jvm.Cond.instantiable "OrderMerge$Mender" (5 : Nat))) := wd_m (tb_2 (i := 70) rfl) rfl
set_option maxRecDepth 100000 in
theorem wd_463 : am_wok (true, (Jvm.Cond.methodLinkNest "OrderMerge" (85 : Nat) ({ cls := "OrderMerge$Mender", name := "<init>", desc := "()V" } : Jvm.MethodName) "OrderMerge")) := wd_n (tb_2 (i := 71) rfl) rfl
set_option maxRecDepth 100000 in
theorem wd_464 : am_wok (false, (Jvm.Cond.instanceMethod ({ cls := "OrderMerge$Mender", name := "<init>", desc := "()V" } : Jvm.MethodName))) := wd_m (tb_2 (i := 72) rfl) rfl
set_option maxRecDepth 100000 in
theorem wd_465 : am_wok (false, (Jvm.Cond.code ({ cls := "OrderMerge$Mender", name := "<init>", desc := "()V" } : Jvm.MethodName) prog_6_method_1_code (1 : Nat) (Option.none : Option Jvm.ClassFile.FieldType))) := wd_m (tb_2 (i := 73) rfl) rfl
set_option maxRecDepth 100000 in
theorem wd_466 : am_wok (false, (Jvm.Cond.methodLink "OrderMerge$Mender" (3 : Nat) ({ cls := "java/lang/Object", name := "<init>", desc := "()V" } : Jvm.MethodName))) := wd_m (tb_2 (i := 74) rfl) rfl
set_option maxRecDepth 100000 in
theorem wd_467 : am_wok (false, (Jvm.Cond.classLink "OrderMerge$Mender" (9 : Nat) "OrderMerge$Orders")) := wd_m (tb_2 (i := 75) rfl) rfl
set_option maxRecDepth 100000 in
theorem wd_468 : am_wok (true, (Jvm.Cond.methodLinkNest "OrderMerge$Mender" (11 : Nat) ({ cls := "OrderMerge$Orders", name := "<init>", desc := "()V" } : Jvm.MethodName) "OrderMerge")) := wd_n (tb_2 (i := 76) rfl) rfl
set_option maxRecDepth 100000 in
theorem wd_469 : am_wok (false, (Jvm.Cond.fieldLink "OrderMerge$Mender" (12 : Nat) "OrderMerge$Mender" "orders" "LOrderMerge$Orders;")) := wd_m (tb_2 (i := 77) rfl) rfl
set_option maxRecDepth 100000 in
theorem wd_470 : am_wok (false, (Jvm.Cond.fieldLink "OrderMerge$Mender" (18 : Nat) "OrderMerge$Mender" "takenPlaces" "[I")) := wd_m (tb_2 (i := 78) rfl) rfl
set_option maxRecDepth 100000 in
theorem wd_471 : am_wok (false, (Jvm.Cond.fieldLink "OrderMerge$Mender" (22 : Nat) "OrderMerge$Mender" "links" "[I")) := wd_m (tb_2 (i := 79) rfl) rfl
set_option maxRecDepth 100000 in
theorem wd_472 : am_wok (false, (Jvm.Cond.fieldLink "OrderMerge$Mender" (29 : Nat) "OrderMerge$Mender" "fewest" "I")) := wd_m (tb_2 (i := 80) rfl) rfl
set_option maxRecDepth 100000 in
theorem wd_473 : am_wok (true, (Jvm.Cond.fieldLinkNest "OrderMerge" (337 : Nat) "OrderMerge$Mender" "fewest" "I" "OrderMerge")) := wd_n (tb_2 (i := 81) rfl) rfl
set_option maxRecDepth 100000 in
theorem wd_474 : am_wok (false, (Jvm.Cond.fieldLink "OrderMerge$Mender" (25 : Nat) "OrderMerge$Mender" "known" "Z")) := wd_m (tb_2 (i := 82) rfl) rfl
set_option maxRecDepth 100000 in
theorem wd_475 : am_wok (true, (Jvm.Cond.fieldLinkNest "OrderMerge" (182 : Nat) "OrderMerge$Mender" "known" "Z" "OrderMerge")) := wd_n (tb_2 (i := 83) rfl) rfl
set_option maxRecDepth 100000 in
theorem wd_476 : am_wok (false, (Jvm.Cond.laysFinal "OrderMerge$Mender" "OrderMerge$Mender" "orders" "LOrderMerge$Orders;")) := wd_m (tb_2 (i := 84) rfl) rfl
set_option maxRecDepth 100000 in
theorem wd_478 : am_wok (false, (Jvm.Cond.laysFinal "OrderMerge$Mender" "OrderMerge$Mender" "takenPlaces" "[I")) := wd_m (tb_2 (i := 86) rfl) rfl
set_option maxRecDepth 100000 in
theorem wd_480 : am_wok (false, (Jvm.Cond.laysFinal "OrderMerge$Mender" "OrderMerge$Mender" "links" "[I")) := wd_m (tb_2 (i := 88) rfl) rfl
set_option maxRecDepth 100000 in
theorem wd_482 : am_wok (false, (Jvm.Cond.lays "OrderMerge$Mender" "OrderMerge$Mender" "fewest" "I")) := wd_m (tb_2 (i := 90) rfl) rfl
set_option maxRecDepth 100000 in
theorem wd_484 : am_wok (false, (Jvm.Cond.lays "OrderMerge$Mender" "OrderMerge$Mender" "known" "Z")) := wd_m (tb_2 (i := 92) rfl) rfl
set_option maxRecDepth 100000 in
theorem wd_487 : am_wok (false, (Jvm.Cond.classLink "OrderMerge" (90 : Nat) "OrderMerge$Lots")) := wd_m (tb_2 (i := 95) rfl) rfl
set_option maxRecDepth 100000 in
theorem wd_488 : am_wok (false, (Jvm.Cond.instantiable "OrderMerge$Lots" (6 : Nat))) := wd_m (tb_2 (i := 96) rfl) rfl
set_option maxRecDepth 100000 in
theorem wd_489 : am_wok (true, (Jvm.Cond.methodLinkNest "OrderMerge" (92 : Nat) ({ cls := "OrderMerge$Lots", name := "<init>", desc := "()V" } : Jvm.MethodName) "OrderMerge")) := wd_n (tb_2 (i := 97) rfl) rfl
set_option maxRecDepth 100000 in
theorem wd_490 : am_wok (false, (Jvm.Cond.instanceMethod ({ cls := "OrderMerge$Lots", name := "<init>", desc := "()V" } : Jvm.MethodName))) := wd_m (tb_2 (i := 98) rfl) rfl
set_option maxRecDepth 100000 in
theorem wd_491 : am_wok (false, (Jvm.Cond.code ({ cls := "OrderMerge$Lots", name := "<init>", desc := "()V" } : Jvm.MethodName) prog_5_method_1_code (1 : Nat) (Option.none : Option Jvm.ClassFile.FieldType))) := wd_m (tb_2 (i := 99) rfl) rfl
set_option maxRecDepth 100000 in
theorem wd_492 : am_wok (false, (Jvm.Cond.methodLink "OrderMerge$Lots" (3 : Nat) ({ cls := "java/lang/Object", name := "<init>", desc := "()V" } : Jvm.MethodName))) := wd_m (tb_2 (i := 100) rfl) rfl
set_option maxRecDepth 100000 in
theorem wd_493 : am_wok (false, (Jvm.Cond.classLink "OrderMerge$Lots" (9 : Nat) "OrderMerge$Orders")) := wd_m (tb_2 (i := 101) rfl) rfl
set_option maxRecDepth 100000 in
theorem wd_494 : am_wok (true, (Jvm.Cond.methodLinkNest "OrderMerge$Lots" (11 : Nat) ({ cls := "OrderMerge$Orders", name := "<init>", desc := "()V" } : Jvm.MethodName) "OrderMerge")) := wd_n (tb_2 (i := 102) rfl) rfl
set_option maxRecDepth 100000 in
theorem wd_495 : am_wok (false, (Jvm.Cond.fieldLink "OrderMerge$Lots" (12 : Nat) "OrderMerge$Lots" "orders" "LOrderMerge$Orders;")) := wd_m (tb_2 (i := 103) rfl) rfl
set_option maxRecDepth 100000 in
theorem wd_496 : am_wok (false, (Jvm.Cond.fieldLink "OrderMerge$Lots" (18 : Nat) "OrderMerge$Lots" "tallies" "[I")) := wd_m (tb_2 (i := 104) rfl) rfl
set_option maxRecDepth 100000 in
theorem wd_497 : am_wok (false, (Jvm.Cond.fieldLink "OrderMerge$Lots" (51 : Nat) "OrderMerge$Lots" "draws" "I")) := wd_m (tb_2 (i := 105) rfl) rfl
set_option maxRecDepth 100000 in
theorem wd_498 : am_wok (true, (Jvm.Cond.fieldLinkNest "OrderMerge" (374 : Nat) "OrderMerge$Lots" "draws" "I" "OrderMerge")) := wd_n (tb_2 (i := 106) rfl) rfl
set_option maxRecDepth 100000 in
theorem wd_499 : am_wok (false, (Jvm.Cond.fieldLink "OrderMerge$Lots" (30 : Nat) "OrderMerge$Lots" "allOrdered" "I")) := wd_m (tb_2 (i := 107) rfl) rfl
set_option maxRecDepth 100000 in
theorem wd_500 : am_wok (true, (Jvm.Cond.fieldLinkNest "OrderMerge" (371 : Nat) "OrderMerge$Lots" "allOrdered" "I" "OrderMerge")) := wd_n (tb_2 (i := 108) rfl) rfl
set_option maxRecDepth 100000 in
theorem wd_501 : am_wok (false, (Jvm.Cond.fieldLink "OrderMerge$Lots" (33 : Nat) "OrderMerge$Lots" "ordered" "I")) := wd_m (tb_2 (i := 109) rfl) rfl
set_option maxRecDepth 100000 in
theorem wd_502 : am_wok (true, (Jvm.Cond.fieldLinkNest "OrderMerge" (380 : Nat) "OrderMerge$Lots" "ordered" "I" "OrderMerge")) := wd_n (tb_2 (i := 110) rfl) rfl
set_option maxRecDepth 100000 in
theorem wd_503 : am_wok (false, (Jvm.Cond.fieldLink "OrderMerge$Lots" (22 : Nat) "OrderMerge$Lots" "known" "I")) := wd_m (tb_2 (i := 111) rfl) rfl
set_option maxRecDepth 100000 in
theorem wd_504 : am_wok (true, (Jvm.Cond.fieldLinkNest "OrderMerge" (186 : Nat) "OrderMerge$Lots" "known" "I" "OrderMerge")) := wd_n (tb_2 (i := 112) rfl) rfl
set_option maxRecDepth 100000 in
theorem wd_505 : am_wok (false, (Jvm.Cond.laysFinal "OrderMerge$Lots" "OrderMerge$Lots" "orders" "LOrderMerge$Orders;")) := wd_m (tb_2 (i := 113) rfl) rfl
set_option maxRecDepth 100000 in
theorem wd_507 : am_wok (false, (Jvm.Cond.laysFinal "OrderMerge$Lots" "OrderMerge$Lots" "tallies" "[I")) := wd_m (tb_2 (i := 115) rfl) rfl
set_option maxRecDepth 100000 in
theorem wd_509 : am_wok (false, (Jvm.Cond.lays "OrderMerge$Lots" "OrderMerge$Lots" "draws" "I")) := wd_m (tb_2 (i := 117) rfl) rfl
set_option maxRecDepth 100000 in
theorem wd_511 : am_wok (false, (Jvm.Cond.lays "OrderMerge$Lots" "OrderMerge$Lots" "allOrdered" "I")) := wd_m (tb_2 (i := 119) rfl) rfl
set_option maxRecDepth 100000 in
theorem wd_513 : am_wok (false, (Jvm.Cond.lays "OrderMerge$Lots" "OrderMerge$Lots" "ordered" "I")) := wd_m (tb_2 (i := 121) rfl) rfl
set_option maxRecDepth 100000 in
theorem wd_515 : am_wok (false, (Jvm.Cond.lays "OrderMerge$Lots" "OrderMerge$Lots" "known" "I")) := wd_m (tb_2 (i := 123) rfl) rfl
set_option maxRecDepth 100000 in
theorem wd_518 : am_wok (false, (Jvm.Cond.classLink "OrderMerge" (104 : Nat) "OrderMerge$Tray")) := wd_m (tb_2 (i := 126) rfl) rfl
set_option maxRecDepth 100000 in
theorem wd_521 : am_wok (false, (Jvm.Cond.instantiable "OrderMerge$Tray" (3 : Nat))) := wd_m (tb_2 (i := 129) rfl) rfl
set_option maxRecDepth 100000 in
theorem wd_522 : am_wok (true, (Jvm.Cond.methodLinkNest "OrderMerge" (114 : Nat) ({ cls := "OrderMerge$Tray", name := "<init>", desc := "()V" } : Jvm.MethodName) "OrderMerge")) := wd_n (tb_2 (i := 130) rfl) rfl
set_option maxRecDepth 100000 in
theorem wd_523 : am_wok (false, (Jvm.Cond.instanceMethod ({ cls := "OrderMerge$Tray", name := "<init>", desc := "()V" } : Jvm.MethodName))) := wd_m (tb_2 (i := 131) rfl) rfl
set_option maxRecDepth 100000 in
theorem wd_524 : am_wok (false, (Jvm.Cond.code ({ cls := "OrderMerge$Tray", name := "<init>", desc := "()V" } : Jvm.MethodName) prog_11_method_1_code (1 : Nat) (Option.none : Option Jvm.ClassFile.FieldType))) := wd_m (tb_2 (i := 132) rfl) rfl
set_option maxRecDepth 100000 in
theorem wd_525 : am_wok (false, (Jvm.Cond.methodLink "OrderMerge$Tray" (3 : Nat) ({ cls := "java/lang/Object", name := "<init>", desc := "()V" } : Jvm.MethodName))) := wd_m (tb_2 (i := 133) rfl) rfl
set_option maxRecDepth 100000 in
theorem wd_526 : am_wok (false, (Jvm.Cond.fieldLink "OrderMerge$Tray" (9 : Nat) "OrderMerge$Tray" "sort" "I")) := wd_m (tb_2 (i := 134) rfl) rfl
set_option maxRecDepth 100000 in
theorem wd_527 : am_wok (false, (Jvm.Cond.fieldLink "OrderMerge$Tray" (19 : Nat) "OrderMerge$Tray" "size" "I")) := wd_m (tb_2 (i := 135) rfl) rfl
set_option maxRecDepth 100000 in
theorem wd_528 : am_wok (true, (Jvm.Cond.fieldLinkNest "OrderMerge" (234 : Nat) "OrderMerge$Tray" "size" "I" "OrderMerge")) := wd_n (tb_2 (i := 136) rfl) rfl
set_option maxRecDepth 100000 in
theorem wd_529 : am_wok (false, (Jvm.Cond.fieldLink "OrderMerge$Tray" (15 : Nat) "OrderMerge$Tray" "cells" "[J")) := wd_m (tb_2 (i := 137) rfl) rfl
set_option maxRecDepth 100000 in
theorem wd_530 : am_wok (false, (Jvm.Cond.lays "OrderMerge$Tray" "OrderMerge$Tray" "sort" "I")) := wd_m (tb_2 (i := 138) rfl) rfl
set_option maxRecDepth 100000 in
theorem wd_532 : am_wok (false, (Jvm.Cond.lays "OrderMerge$Tray" "OrderMerge$Tray" "size" "I")) := wd_m (tb_2 (i := 140) rfl) rfl
set_option maxRecDepth 100000 in
theorem wd_534 : am_wok (false, (Jvm.Cond.laysFinal "OrderMerge$Tray" "OrderMerge$Tray" "cells" "[J")) := wd_m (tb_2 (i := 142) rfl) rfl
set_option maxRecDepth 100000 in
theorem wd_537 : am_wok (false, (Jvm.Cond.arrayClass Jvm.ClassFile.FieldType.long)) := wd_m (tb_2 (i := 145) rfl) rfl
set_option maxRecDepth 100000 in
theorem wd_538 : am_wok (false, (Jvm.Cond.fieldLink "OrderMerge" (9 : Nat) "OrderMerge" "tape" "[B")) := wd_m (tb_2 (i := 146) rfl) rfl
set_option maxRecDepth 100000 in
theorem wd_539 : am_wok (false, (Jvm.Cond.fieldLink "OrderMerge" (115 : Nat) "OrderMerge" "tapeSize" "I")) := wd_m (tb_2 (i := 147) rfl) rfl
set_option maxRecDepth 100000 in
theorem wd_540 : am_wok (false, (Jvm.Cond.fieldLink "OrderMerge" (129 : Nat) "OrderMerge" "lastFault" "I")) := wd_m (tb_2 (i := 148) rfl) rfl
set_option maxRecDepth 100000 in
theorem wd_541 : am_wok (false, (Jvm.Cond.fieldLink "OrderMerge" (13 : Nat) "OrderMerge" "lastFaultPlace" "I")) := wd_m (tb_2 (i := 149) rfl) rfl
set_option maxRecDepth 100000 in
theorem wd_542 : am_wok (false, (Jvm.Cond.fieldLink "OrderMerge" (20 : Nat) "OrderMerge" "reader" "LOrderMerge$Reader;")) := wd_m (tb_2 (i := 150) rfl) rfl
set_option maxRecDepth 100000 in
theorem wd_543 : am_wok (false, (Jvm.Cond.fieldLink "OrderMerge" (27 : Nat) "OrderMerge" "current" "LOrderMerge$House;")) := wd_m (tb_2 (i := 151) rfl) rfl
set_option maxRecDepth 100000 in
theorem wd_544 : am_wok (false, (Jvm.Cond.fieldLink "OrderMerge" (34 : Nat) "OrderMerge" "orders" "LOrderMerge$Orders;")) := wd_m (tb_2 (i := 152) rfl) rfl
set_option maxRecDepth 100000 in
theorem wd_545 : am_wok (false, (Jvm.Cond.fieldLink "OrderMerge" (41 : Nat) "OrderMerge" "past" "LOrderMerge$Past;")) := wd_m (tb_2 (i := 153) rfl) rfl
set_option maxRecDepth 100000 in
theorem wd_546 : am_wok (false, (Jvm.Cond.fieldLink "OrderMerge" (48 : Nat) "OrderMerge" "trial" "LOrderMerge$Facts;")) := wd_m (tb_2 (i := 154) rfl) rfl
set_option maxRecDepth 100000 in
theorem wd_547 : am_wok (false, (Jvm.Cond.fieldLink "OrderMerge" (52 : Nat) "OrderMerge" "trialOrders" "LOrderMerge$Orders;")) := wd_m (tb_2 (i := 155) rfl) rfl
set_option maxRecDepth 100000 in
theorem wd_548 : am_wok (false, (Jvm.Cond.fieldLink "OrderMerge" (63 : Nat) "OrderMerge" "binding" "LOrderMerge$Demands;")) := wd_m (tb_2 (i := 156) rfl) rfl
set_option maxRecDepth 100000 in
theorem wd_549 : am_wok (false, (Jvm.Cond.fieldLink "OrderMerge" (70 : Nat) "OrderMerge" "olds" "LOrderMerge$OldOrders;")) := wd_m (tb_2 (i := 157) rfl) rfl
set_option maxRecDepth 100000 in
theorem wd_550 : am_wok (false, (Jvm.Cond.fieldLink "OrderMerge" (79 : Nat) "OrderMerge" "voice" "LOrderMerge$Voice;")) := wd_m (tb_2 (i := 158) rfl) rfl
set_option maxRecDepth 100000 in
theorem wd_551 : am_wok (false, (Jvm.Cond.fieldLink "OrderMerge" (86 : Nat) "OrderMerge" "mender" "LOrderMerge$Mender;")) := wd_m (tb_2 (i := 159) rfl) rfl
set_option maxRecDepth 100000 in
theorem wd_552 : am_wok (false, (Jvm.Cond.fieldLink "OrderMerge" (93 : Nat) "OrderMerge" "lots" "LOrderMerge$Lots;")) := wd_m (tb_2 (i := 160) rfl) rfl
set_option maxRecDepth 100000 in
theorem wd_553 : am_wok (false, (Jvm.Cond.fieldLink "OrderMerge" (97 : Nat) "OrderMerge" "told" "[I")) := wd_m (tb_2 (i := 161) rfl) rfl
set_option maxRecDepth 100000 in
theorem wd_554 : am_wok (false, (Jvm.Cond.fieldLink "OrderMerge" (101 : Nat) "OrderMerge" "turned" "[I")) := wd_m (tb_2 (i := 162) rfl) rfl
set_option maxRecDepth 100000 in
theorem wd_555 : am_wok (false, (Jvm.Cond.fieldLink "OrderMerge" (106 : Nat) "OrderMerge" "trays" "[LOrderMerge$Tray;")) := wd_m (tb_2 (i := 163) rfl) rfl
set_option maxRecDepth 100000 in
theorem wd_556 : am_wok (false, (Jvm.Cond.fieldLink "OrderMerge" (110 : Nat) "OrderMerge" "images" "[LOrderMerge$House;")) := wd_m (tb_2 (i := 164) rfl) rfl
set_option maxRecDepth 100000 in
theorem wd_557 : am_wok (false, (Jvm.Cond.laysFinal "OrderMerge" "OrderMerge" "tape" "[B")) := wd_m (tb_2 (i := 165) rfl) rfl
set_option maxRecDepth 100000 in
theorem wd_559 : am_wok (false, (Jvm.Cond.lays "OrderMerge" "OrderMerge" "tapeSize" "I")) := wd_m (tb_2 (i := 167) rfl) rfl
set_option maxRecDepth 100000 in
theorem wd_561 : am_wok (false, (Jvm.Cond.lays "OrderMerge" "OrderMerge" "lastFault" "I")) := wd_m (tb_2 (i := 169) rfl) rfl
set_option maxRecDepth 100000 in
theorem wd_563 : am_wok (false, (Jvm.Cond.lays "OrderMerge" "OrderMerge" "lastFaultPlace" "I")) := wd_m (tb_2 (i := 171) rfl) rfl
set_option maxRecDepth 100000 in
theorem wd_565 : am_wok (false, (Jvm.Cond.laysFinal "OrderMerge" "OrderMerge" "reader" "LOrderMerge$Reader;")) := wd_m (tb_2 (i := 173) rfl) rfl
set_option maxRecDepth 100000 in
theorem wd_567 : am_wok (false, (Jvm.Cond.laysFinal "OrderMerge" "OrderMerge" "current" "LOrderMerge$House;")) := wd_m (tb_2 (i := 175) rfl) rfl
set_option maxRecDepth 100000 in
theorem wd_569 : am_wok (false, (Jvm.Cond.laysFinal "OrderMerge" "OrderMerge" "orders" "LOrderMerge$Orders;")) := wd_m (tb_2 (i := 177) rfl) rfl
set_option maxRecDepth 100000 in
theorem wd_571 : am_wok (false, (Jvm.Cond.laysFinal "OrderMerge" "OrderMerge" "past" "LOrderMerge$Past;")) := wd_m (tb_2 (i := 179) rfl) rfl
set_option maxRecDepth 100000 in
theorem wd_573 : am_wok (false, (Jvm.Cond.laysFinal "OrderMerge" "OrderMerge" "trial" "LOrderMerge$Facts;")) := wd_m (tb_2 (i := 181) rfl) rfl
set_option maxRecDepth 100000 in
theorem wd_575 : am_wok (false, (Jvm.Cond.laysFinal "OrderMerge" "OrderMerge" "trialOrders" "LOrderMerge$Orders;")) := wd_m (tb_2 (i := 183) rfl) rfl
set_option maxRecDepth 100000 in
theorem wd_577 : am_wok (false, (Jvm.Cond.laysFinal "OrderMerge" "OrderMerge" "binding" "LOrderMerge$Demands;")) := wd_m (tb_2 (i := 185) rfl) rfl
set_option maxRecDepth 100000 in
theorem wd_579 : am_wok (false, (Jvm.Cond.laysFinal "OrderMerge" "OrderMerge" "olds" "LOrderMerge$OldOrders;")) := wd_m (tb_2 (i := 187) rfl) rfl
set_option maxRecDepth 100000 in
theorem wd_581 : am_wok (false, (Jvm.Cond.laysFinal "OrderMerge" "OrderMerge" "voice" "LOrderMerge$Voice;")) := wd_m (tb_2 (i := 189) rfl) rfl
set_option maxRecDepth 100000 in
theorem wd_583 : am_wok (false, (Jvm.Cond.laysFinal "OrderMerge" "OrderMerge" "mender" "LOrderMerge$Mender;")) := wd_m (tb_2 (i := 191) rfl) rfl
set_option maxRecDepth 100000 in
theorem wd_585 : am_wok (false, (Jvm.Cond.laysFinal "OrderMerge" "OrderMerge" "lots" "LOrderMerge$Lots;")) := wd_m (tb_2 (i := 193) rfl) rfl
set_option maxRecDepth 100000 in
theorem wd_587 : am_wok (false, (Jvm.Cond.laysFinal "OrderMerge" "OrderMerge" "told" "[I")) := wd_m (tb_2 (i := 195) rfl) rfl
set_option maxRecDepth 100000 in
theorem wd_589 : am_wok (false, (Jvm.Cond.laysFinal "OrderMerge" "OrderMerge" "turned" "[I")) := wd_m (tb_2 (i := 197) rfl) rfl
set_option maxRecDepth 100000 in
theorem wd_591 : am_wok (false, (Jvm.Cond.laysFinal "OrderMerge" "OrderMerge" "trays" "[LOrderMerge$Tray;")) := wd_m (tb_2 (i := 199) rfl) rfl
set_option maxRecDepth 100000 in
theorem wd_593 : am_wok (false, (Jvm.Cond.laysFinal "OrderMerge" "OrderMerge" "images" "[LOrderMerge$House;")) := wd_m (tb_2 (i := 201) rfl) rfl
set_option maxRecDepth 100000 in
theorem wd_596 : am_wok (false, (Jvm.Cond.methodLink "OrderMergeLaw" (13 : Nat) ({ cls := "OrderMerge", name := "feed", desc := "(IIIII)I" } : Jvm.MethodName))) := wd_m (tb_2 (i := 204) rfl) rfl
set_option maxRecDepth 100000 in
theorem wd_597 : am_wok (false, (Jvm.Cond.instanceMethod ({ cls := "OrderMerge", name := "feed", desc := "(IIIII)I" } : Jvm.MethodName))) := wd_m (tb_2 (i := 205) rfl) rfl
set_option maxRecDepth 100000 in
theorem wd_598 : am_wok (false, (Jvm.Cond.selects "OrderMerge" ({ cls := "OrderMerge", name := "feed", desc := "(IIIII)I" } : Jvm.MethodName) ({ cls := "OrderMerge", name := "feed", desc := "(IIIII)I" } : Jvm.MethodName))) := wd_m (tb_2 (i := 206) rfl) rfl
set_option maxRecDepth 100000 in
theorem wd_599 : am_wok (false, (Jvm.Cond.code ({ cls := "OrderMerge", name := "feed", desc := "(IIIII)I" } : Jvm.MethodName) prog_1_method_2_code (6 : Nat) (Option.some Jvm.ClassFile.FieldType.int))) := wd_m (tb_2 (i := 207) rfl) rfl
set_option maxRecDepth 100000 in
theorem wd_600 : am_wok (false, (Jvm.Cond.methodLink "OrderMerge" (118 : Nat) ({ cls := "OrderMerge", name := "putBytes", desc := "(I)V" } : Jvm.MethodName))) := wd_m (tb_2 (i := 208) rfl) rfl
set_option maxRecDepth 100000 in
theorem wd_602 : am_wok (false, (Jvm.Cond.instanceMethod ({ cls := "OrderMerge", name := "putBytes", desc := "(I)V" } : Jvm.MethodName))) := wd_m (tb_2 (i := 210) rfl) rfl
set_option maxRecDepth 100000 in
theorem wd_603 : am_wok (false, (Jvm.Cond.code ({ cls := "OrderMerge", name := "putBytes", desc := "(I)V" } : Jvm.MethodName) prog_1_method_3_code (3 : Nat) (Option.none : Option Jvm.ClassFile.FieldType))) := wd_m (tb_2 (i := 211) rfl) rfl
set_option maxRecDepth 100000 in
theorem wd_604 : am_wok (false, (Jvm.Cond.methodLink "OrderMergeLaw" (18 : Nat) ({ cls := "OrderMerge", name := "house", desc := "(I)I" } : Jvm.MethodName))) := wd_m (tb_2 (i := 212) rfl) rfl
set_option maxRecDepth 100000 in
theorem wd_605 : am_wok (false, (Jvm.Cond.instanceMethod ({ cls := "OrderMerge", name := "house", desc := "(I)I" } : Jvm.MethodName))) := wd_m (tb_2 (i := 213) rfl) rfl
set_option maxRecDepth 100000 in
theorem wd_606 : am_wok (false, (Jvm.Cond.selects "OrderMerge" ({ cls := "OrderMerge", name := "house", desc := "(I)I" } : Jvm.MethodName) ({ cls := "OrderMerge", name := "house", desc := "(I)I" } : Jvm.MethodName))) := wd_m (tb_2 (i := 214) rfl) rfl
set_option maxRecDepth 100000 in
theorem wd_607 : am_wok (false, (Jvm.Cond.code ({ cls := "OrderMerge", name := "house", desc := "(I)I" } : Jvm.MethodName) prog_1_method_4_code (3 : Nat) (Option.some Jvm.ClassFile.FieldType.int))) := wd_m (tb_2 (i := 215) rfl) rfl
set_option maxRecDepth 100000 in
theorem wd_608 : am_wok (false, (Jvm.Cond.methodLink "OrderMerge" (122 : Nat) ({ cls := "OrderMerge$Reader", name := "read", desc := "([BI)Z" } : Jvm.MethodName))) := wd_m (tb_2 (i := 216) rfl) rfl
set_option maxRecDepth 100000 in
theorem wd_609 : am_wok (false, (Jvm.Cond.instanceMethod ({ cls := "OrderMerge$Reader", name := "read", desc := "([BI)Z" } : Jvm.MethodName))) := wd_m (tb_2 (i := 217) rfl) rfl
set_option maxRecDepth 100000 in
theorem wd_610 : am_wok (false, (Jvm.Cond.selects "OrderMerge$Reader" ({ cls := "OrderMerge$Reader", name := "read", desc := "([BI)Z" } : Jvm.MethodName) ({ cls := "OrderMerge$Reader", name := "read", desc := "([BI)Z" } : Jvm.MethodName))) := wd_m (tb_2 (i := 218) rfl) rfl
set_option maxRecDepth 100000 in
theorem wd_611 : am_wok (false, (Jvm.Cond.code ({ cls := "OrderMerge$Reader", name := "read", desc := "([BI)Z" } : Jvm.MethodName) prog_10_method_2_code (5 : Nat) (Option.some Jvm.ClassFile.FieldType.boolean))) := wd_m (tb_2 (i := 219) rfl) rfl
set_option maxRecDepth 100000 in
theorem wd_612 : am_wok (false, (Jvm.Cond.methodLink "OrderMerge$Reader" (32 : Nat) ({ cls := "java/lang/Math", name := "min", desc := "(II)I" } : Jvm.MethodName))) := wd_m (tb_2 (i := 220) rfl) rfl
set_option maxRecDepth 100000 in
theorem wd_613 : am_wok (false, (Jvm.Cond.static ({ cls := "java/lang/Math", name := "min", desc := "(II)I" } : Jvm.MethodName))) := wd_m (tb_2 (i := 221) rfl) rfl
set_option maxRecDepth 100000 in
theorem wd_614 : am_wok (false, (Jvm.Cond.code ({ cls := "java/lang/Math", name := "min", desc := "(II)I" } : Jvm.MethodName) prog_18_method_69_code (2 : Nat) (Option.some Jvm.ClassFile.FieldType.int))) := wd_m (tb_2 (i := 222) rfl) rfl
set_option maxRecDepth 100000 in
theorem wd_615 : am_wok (false, (Jvm.Cond.methodLink "OrderMerge$Reader" (38 : Nat) ({ cls := "java/lang/Math", name := "max", desc := "(II)I" } : Jvm.MethodName))) := wd_m (tb_2 (i := 223) rfl) rfl
set_option maxRecDepth 100000 in
theorem wd_616 : am_wok (false, (Jvm.Cond.static ({ cls := "java/lang/Math", name := "max", desc := "(II)I" } : Jvm.MethodName))) := wd_m (tb_2 (i := 224) rfl) rfl
set_option maxRecDepth 100000 in
theorem wd_617 : am_wok (false, (Jvm.Cond.code ({ cls := "java/lang/Math", name := "max", desc := "(II)I" } : Jvm.MethodName) prog_18_method_65_code (2 : Nat) (Option.some Jvm.ClassFile.FieldType.int))) := wd_m (tb_2 (i := 225) rfl) rfl
set_option maxRecDepth 100000 in
theorem wd_618 : am_wok (false, (Jvm.Cond.methodLink "OrderMerge$Reader" (51 : Nat) ({ cls := "OrderMerge$Facts", name := "clear", desc := "()V" } : Jvm.MethodName))) := wd_m (tb_2 (i := 226) rfl) rfl
set_option maxRecDepth 100000 in
theorem wd_619 : am_wok (false, (Jvm.Cond.instanceMethod ({ cls := "OrderMerge$Facts", name := "clear", desc := "()V" } : Jvm.MethodName))) := wd_m (tb_2 (i := 227) rfl) rfl
set_option maxRecDepth 100000 in
theorem wd_620 : am_wok (false, (Jvm.Cond.selects "OrderMerge$Facts" ({ cls := "OrderMerge$Facts", name := "clear", desc := "()V" } : Jvm.MethodName) ({ cls := "OrderMerge$Facts", name := "clear", desc := "()V" } : Jvm.MethodName))) := wd_m (tb_2 (i := 228) rfl) rfl
set_option maxRecDepth 100000 in
theorem wd_621 : am_wok (false, (Jvm.Cond.code ({ cls := "OrderMerge$Facts", name := "clear", desc := "()V" } : Jvm.MethodName) prog_3_method_2_code (1 : Nat) (Option.none : Option Jvm.ClassFile.FieldType))) := wd_m (tb_2 (i := 229) rfl) rfl
set_option maxRecDepth 100000 in
theorem wd_622 : am_wok (false, (Jvm.Cond.methodLink "OrderMerge$Facts" (28 : Nat) ({ cls := "java/util/Arrays", name := "fill", desc := "([II)V" } : Jvm.MethodName))) := wd_m (tb_2 (i := 230) rfl) rfl
set_option maxRecDepth 100000 in
theorem wd_623 : am_wok (false, (Jvm.Cond.static ({ cls := "java/util/Arrays", name := "fill", desc := "([II)V" } : Jvm.MethodName))) := wd_m (tb_2 (i := 231) rfl) rfl
set_option maxRecDepth 100000 in
theorem wd_624 : am_wok (false, (Jvm.Cond.code ({ cls := "java/util/Arrays", name := "fill", desc := "([II)V" } : Jvm.MethodName) prog_23_method_103_code (4 : Nat) (Option.none : Option Jvm.ClassFile.FieldType))) := wd_m (tb_2 (i := 232) rfl) rfl
set_option maxRecDepth 100000 in
theorem wd_625 : am_wok (false, (Jvm.Cond.methodLink "OrderMerge$Reader" (63 : Nat) ({ cls := "OrderMerge$Reader", name := "splitText", desc := "()V" } : Jvm.MethodName))) := wd_m (tb_2 (i := 233) rfl) rfl
set_option maxRecDepth 100000 in
theorem wd_627 : am_wok (false, (Jvm.Cond.instanceMethod ({ cls := "OrderMerge$Reader", name := "splitText", desc := "()V" } : Jvm.MethodName))) := wd_m (tb_2 (i := 235) rfl) rfl
set_option maxRecDepth 100000 in
theorem wd_628 : am_wok (false, (Jvm.Cond.code ({ cls := "OrderMerge$Reader", name := "splitText", desc := "()V" } : Jvm.MethodName) prog_10_method_4_code (3 : Nat) (Option.none : Option Jvm.ClassFile.FieldType))) := wd_m (tb_2 (i := 236) rfl) rfl
set_option maxRecDepth 100000 in
theorem wd_629 : am_wok (false, (Jvm.Cond.methodLink "OrderMerge$Reader" (98 : Nat) ({ cls := "OrderMerge$Reader", name := "tokenEnd", desc := "(I)I" } : Jvm.MethodName))) := wd_m (tb_2 (i := 237) rfl) rfl
set_option maxRecDepth 100000 in
theorem wd_631 : am_wok (false, (Jvm.Cond.instanceMethod ({ cls := "OrderMerge$Reader", name := "tokenEnd", desc := "(I)I" } : Jvm.MethodName))) := wd_m (tb_2 (i := 239) rfl) rfl
set_option maxRecDepth 100000 in
theorem wd_632 : am_wok (false, (Jvm.Cond.code ({ cls := "OrderMerge$Reader", name := "tokenEnd", desc := "(I)I" } : Jvm.MethodName) prog_10_method_8_code (4 : Nat) (Option.some Jvm.ClassFile.FieldType.int))) := wd_m (tb_3 (i := 0) rfl) rfl
set_option maxRecDepth 100000 in
theorem wd_633 : am_wok (false, (Jvm.Cond.methodLink "OrderMerge$Reader" (105 : Nat) ({ cls := "OrderMerge$Reader", name := "byteAt", desc := "(I)I" } : Jvm.MethodName))) := wd_m (tb_3 (i := 1) rfl) rfl
set_option maxRecDepth 100000 in
theorem wd_635 : am_wok (false, (Jvm.Cond.instanceMethod ({ cls := "OrderMerge$Reader", name := "byteAt", desc := "(I)I" } : Jvm.MethodName))) := wd_m (tb_3 (i := 3) rfl) rfl
set_option maxRecDepth 100000 in
theorem wd_636 : am_wok (false, (Jvm.Cond.code ({ cls := "OrderMerge$Reader", name := "byteAt", desc := "(I)I" } : Jvm.MethodName) prog_10_method_5_code (2 : Nat) (Option.some Jvm.ClassFile.FieldType.int))) := wd_m (tb_3 (i := 4) rfl) rfl
set_option maxRecDepth 100000 in
theorem wd_637 : am_wok (false, (Jvm.Cond.methodLink "OrderMerge$Reader" (108 : Nat) ({ cls := "OrderMerge$Reader", name := "isLetter", desc := "(I)Z" } : Jvm.MethodName))) := wd_m (tb_3 (i := 5) rfl) rfl
set_option maxRecDepth 100000 in
theorem wd_638 : am_wok (false, (Jvm.Cond.static ({ cls := "OrderMerge$Reader", name := "isLetter", desc := "(I)Z" } : Jvm.MethodName))) := wd_m (tb_3 (i := 6) rfl) rfl
set_option maxRecDepth 100000 in
theorem wd_639 : am_wok (false, (Jvm.Cond.code ({ cls := "OrderMerge$Reader", name := "isLetter", desc := "(I)Z" } : Jvm.MethodName) prog_10_method_6_code (1 : Nat) (Option.some Jvm.ClassFile.FieldType.boolean))) := wd_m (tb_3 (i := 7) rfl) rfl
set_option maxRecDepth 100000 in
theorem wd_640 : am_wok (false, (Jvm.Cond.methodLink "OrderMerge$Reader" (112 : Nat) ({ cls := "OrderMerge$Reader", name := "isDigit", desc := "(I)Z" } : Jvm.MethodName))) := wd_m (tb_3 (i := 8) rfl) rfl
set_option maxRecDepth 100000 in
theorem wd_641 : am_wok (false, (Jvm.Cond.static ({ cls := "OrderMerge$Reader", name := "isDigit", desc := "(I)Z" } : Jvm.MethodName))) := wd_m (tb_3 (i := 9) rfl) rfl
set_option maxRecDepth 100000 in
theorem wd_642 : am_wok (false, (Jvm.Cond.code ({ cls := "OrderMerge$Reader", name := "isDigit", desc := "(I)Z" } : Jvm.MethodName) prog_10_method_7_code (1 : Nat) (Option.some Jvm.ClassFile.FieldType.boolean))) := wd_m (tb_3 (i := 10) rfl) rfl
set_option maxRecDepth 100000 in
theorem wd_643 : am_wok (false, (Jvm.Cond.methodLink "OrderMerge$Reader" (102 : Nat) ({ cls := "OrderMerge$Reader", name := "tokenOf", desc := "(II)I" } : Jvm.MethodName))) := wd_m (tb_3 (i := 11) rfl) rfl
set_option maxRecDepth 100000 in
theorem wd_645 : am_wok (false, (Jvm.Cond.instanceMethod ({ cls := "OrderMerge$Reader", name := "tokenOf", desc := "(II)I" } : Jvm.MethodName))) := wd_m (tb_3 (i := 13) rfl) rfl
set_option maxRecDepth 100000 in
theorem wd_646 : am_wok (false, (Jvm.Cond.code ({ cls := "OrderMerge$Reader", name := "tokenOf", desc := "(II)I" } : Jvm.MethodName) prog_10_method_9_code (4 : Nat) (Option.some Jvm.ClassFile.FieldType.int))) := wd_m (tb_3 (i := 14) rfl) rfl
set_option maxRecDepth 100000 in
theorem wd_647 : am_wok (false, (Jvm.Cond.methodLink "OrderMerge$Reader" (115 : Nat) ({ cls := "OrderMerge$Reader", name := "wordToken", desc := "(II)I" } : Jvm.MethodName))) := wd_m (tb_3 (i := 15) rfl) rfl
set_option maxRecDepth 100000 in
theorem wd_649 : am_wok (false, (Jvm.Cond.instanceMethod ({ cls := "OrderMerge$Reader", name := "wordToken", desc := "(II)I" } : Jvm.MethodName))) := wd_m (tb_3 (i := 17) rfl) rfl
set_option maxRecDepth 100000 in
theorem wd_650 : am_wok (false, (Jvm.Cond.code ({ cls := "OrderMerge$Reader", name := "wordToken", desc := "(II)I" } : Jvm.MethodName) prog_10_method_11_code (6 : Nat) (Option.some Jvm.ClassFile.FieldType.int))) := wd_m (tb_3 (i := 18) rfl) rfl
set_option maxRecDepth 100000 in
theorem wd_652 : am_wok (false, (Jvm.Cond.methodLink "OrderMerge$Reader" (130 : Nat) ({ cls := "java/lang/String", name := "length", desc := "()I" } : Jvm.MethodName))) := wd_m (tb_3 (i := 20) rfl) rfl
set_option maxRecDepth 100000 in
theorem wd_653 : am_wok (false, (Jvm.Cond.instanceMethod ({ cls := "java/lang/String", name := "length", desc := "()I" } : Jvm.MethodName))) := wd_m (tb_3 (i := 21) rfl) rfl
set_option maxRecDepth 100000 in
theorem wd_654 : am_wok (false, (Jvm.Cond.selects "java/lang/String" ({ cls := "java/lang/String", name := "length", desc := "()I" } : Jvm.MethodName) ({ cls := "java/lang/String", name := "length", desc := "()I" } : Jvm.MethodName))) := wd_m (tb_3 (i := 22) rfl) rfl
set_option maxRecDepth 100000 in
theorem wd_655 : am_wok (false, (Jvm.Cond.code ({ cls := "java/lang/String", name := "length", desc := "()I" } : Jvm.MethodName) prog_19_method_54_code (1 : Nat) (Option.some Jvm.ClassFile.FieldType.int))) := wd_m (tb_3 (i := 23) rfl) rfl
set_option maxRecDepth 100000 in
theorem wd_656 : am_wok (false, (Jvm.Cond.methodLink "java/lang/String" (335 : Nat) ({ cls := "java/lang/String", name := "coder", desc := "()B" } : Jvm.MethodName))) := wd_m (tb_3 (i := 24) rfl) rfl
set_option maxRecDepth 100000 in
theorem wd_657 : am_wok (false, (Jvm.Cond.instanceMethod ({ cls := "java/lang/String", name := "coder", desc := "()B" } : Jvm.MethodName))) := wd_m (tb_3 (i := 25) rfl) rfl
set_option maxRecDepth 100000 in
theorem wd_658 : am_wok (false, (Jvm.Cond.selects "java/lang/String" ({ cls := "java/lang/String", name := "coder", desc := "()B" } : Jvm.MethodName) ({ cls := "java/lang/String", name := "coder", desc := "()B" } : Jvm.MethodName))) := wd_m (tb_3 (i := 26) rfl) rfl
set_option maxRecDepth 100000 in
theorem wd_659 : am_wok (false, (Jvm.Cond.code ({ cls := "java/lang/String", name := "coder", desc := "()B" } : Jvm.MethodName) prog_19_method_152_code (1 : Nat) (Option.some Jvm.ClassFile.FieldType.byte))) := wd_m (tb_3 (i := 27) rfl) rfl
set_option maxRecDepth 100000 in
theorem wd_660 : am_wok (false, (Jvm.Cond.fieldLink "java/lang/String" (38 : Nat) "java/lang/String" "COMPACT_STRINGS" "Z")) := wd_m (tb_3 (i := 28) rfl) rfl
set_option maxRecDepth 100000 in
theorem wd_662 : am_wok (false, (Jvm.Cond.methodLink "OrderMerge$Reader" (133 : Nat) ({ cls := "java/lang/String", name := "charAt", desc := "(I)C" } : Jvm.MethodName))) := wd_m (tb_3 (i := 30) rfl) rfl
set_option maxRecDepth 100000 in
theorem wd_663 : am_wok (false, (Jvm.Cond.instanceMethod ({ cls := "java/lang/String", name := "charAt", desc := "(I)C" } : Jvm.MethodName))) := wd_m (tb_3 (i := 31) rfl) rfl
set_option maxRecDepth 100000 in
theorem wd_664 : am_wok (false, (Jvm.Cond.selects "java/lang/String" ({ cls := "java/lang/String", name := "charAt", desc := "(I)C" } : Jvm.MethodName) ({ cls := "java/lang/String", name := "charAt", desc := "(I)C" } : Jvm.MethodName))) := wd_m (tb_3 (i := 32) rfl) rfl
set_option maxRecDepth 100000 in
theorem wd_665 : am_wok (false, (Jvm.Cond.code ({ cls := "java/lang/String", name := "charAt", desc := "(I)C" } : Jvm.MethodName) prog_19_method_56_code (2 : Nat) (Option.some Jvm.ClassFile.FieldType.char))) := wd_m (tb_3 (i := 33) rfl) rfl
set_option maxRecDepth 100000 in
theorem wd_666 : am_wok (false, (Jvm.Cond.methodLink "java/lang/String" (492 : Nat) ({ cls := "java/lang/String", name := "isLatin1", desc := "()Z" } : Jvm.MethodName))) := wd_m (tb_3 (i := 34) rfl) rfl
set_option maxRecDepth 100000 in
theorem wd_667 : am_wok (false, (Jvm.Cond.instanceMethod ({ cls := "java/lang/String", name := "isLatin1", desc := "()Z" } : Jvm.MethodName))) := wd_m (tb_3 (i := 35) rfl) rfl
set_option maxRecDepth 100000 in
theorem wd_668 : am_wok (false, (Jvm.Cond.selects "java/lang/String" ({ cls := "java/lang/String", name := "isLatin1", desc := "()Z" } : Jvm.MethodName) ({ cls := "java/lang/String", name := "isLatin1", desc := "()Z" } : Jvm.MethodName))) := wd_m (tb_3 (i := 36) rfl) rfl
set_option maxRecDepth 100000 in
theorem wd_669 : am_wok (false, (Jvm.Cond.code ({ cls := "java/lang/String", name := "isLatin1", desc := "()Z" } : Jvm.MethodName) prog_19_method_154_code (1 : Nat) (Option.some Jvm.ClassFile.FieldType.boolean))) := wd_m (tb_3 (i := 37) rfl) rfl
set_option maxRecDepth 100000 in
theorem wd_670 : am_wok (false, (Jvm.Cond.methodLink "java/lang/String" (495 : Nat) ({ cls := "java/lang/StringLatin1", name := "charAt", desc := "([BI)C" } : Jvm.MethodName))) := wd_m (tb_3 (i := 38) rfl) rfl
set_option maxRecDepth 100000 in
theorem wd_671 : am_wok (false, (Jvm.Cond.static ({ cls := "java/lang/StringLatin1", name := "charAt", desc := "([BI)C" } : Jvm.MethodName))) := wd_m (tb_3 (i := 39) rfl) rfl
set_option maxRecDepth 100000 in
theorem wd_672 : am_wok (false, (Jvm.Cond.code ({ cls := "java/lang/StringLatin1", name := "charAt", desc := "([BI)C" } : Jvm.MethodName) prog_20_method_2_code (2 : Nat) (Option.some Jvm.ClassFile.FieldType.char))) := wd_m (tb_3 (i := 40) rfl) rfl
set_option maxRecDepth 100000 in
theorem wd_673 : am_wok (false, (Jvm.Cond.methodLink "java/lang/StringLatin1" (9 : Nat) ({ cls := "java/lang/String", name := "checkIndex", desc := "(II)V" } : Jvm.MethodName))) := wd_m (tb_3 (i := 41) rfl) rfl
set_option maxRecDepth 100000 in
theorem wd_674 : am_wok (false, (Jvm.Cond.static ({ cls := "java/lang/String", name := "checkIndex", desc := "(II)V" } : Jvm.MethodName))) := wd_m (tb_3 (i := 42) rfl) rfl
set_option maxRecDepth 100000 in
theorem wd_675 : am_wok (false, (Jvm.Cond.code ({ cls := "java/lang/String", name := "checkIndex", desc := "(II)V" } : Jvm.MethodName) prog_19_method_155_code (2 : Nat) (Option.none : Option Jvm.ClassFile.FieldType))) := wd_m (tb_3 (i := 43) rfl) rfl
set_option maxRecDepth 100000 in
theorem wd_676 : am_wok (false, (Jvm.Cond.fieldLink "java/lang/String" (1053 : Nat) "jdk/internal/util/Preconditions" "SIOOBE_FORMATTER" "Ljava/util/function/BiFunction;")) := wd_m (tb_3 (i := 44) rfl) rfl
set_option maxRecDepth 100000 in
theorem wd_678 : am_wok (false, (Jvm.Cond.methodLink "java/lang/String" (1059 : Nat) ({ cls := "jdk/internal/util/Preconditions", name := "checkIndex", desc := "(IILjava/util/function/BiFunction;)I" } : Jvm.MethodName))) := wd_m (tb_3 (i := 46) rfl) rfl
set_option maxRecDepth 100000 in
theorem wd_679 : am_wok (false, (Jvm.Cond.static ({ cls := "jdk/internal/util/Preconditions", name := "checkIndex", desc := "(IILjava/util/function/BiFunction;)I" } : Jvm.MethodName))) := wd_m (tb_3 (i := 47) rfl) rfl
set_option maxRecDepth 100000 in
theorem wd_680 : am_wok (false, (Jvm.Cond.code ({ cls := "jdk/internal/util/Preconditions", name := "checkIndex", desc := "(IILjava/util/function/BiFunction;)I" } : Jvm.MethodName) prog_24_method_11_code (3 : Nat) (Option.some Jvm.ClassFile.FieldType.int))) := wd_m (tb_3 (i := 48) rfl) rfl
set_option maxRecDepth 100000 in
theorem wd_681 : am_wok (false, (Jvm.Cond.methodLink "java/lang/String" (498 : Nat) ({ cls := "java/lang/StringUTF16", name := "charAt", desc := "([BI)C" } : Jvm.MethodName))) := wd_m (tb_3 (i := 49) rfl) rfl
set_option maxRecDepth 100000 in
theorem wd_682 : am_wok (false, (Jvm.Cond.static ({ cls := "java/lang/StringUTF16", name := "charAt", desc := "([BI)C" } : Jvm.MethodName))) := wd_m (tb_3 (i := 50) rfl) rfl
set_option maxRecDepth 100000 in
theorem wd_683 : am_wok (false, (Jvm.Cond.code ({ cls := "java/lang/StringUTF16", name := "charAt", desc := "([BI)C" } : Jvm.MethodName) prog_21_method_83_code (2 : Nat) (Option.some Jvm.ClassFile.FieldType.char))) := wd_m (tb_3 (i := 51) rfl) rfl
set_option maxRecDepth 100000 in
theorem wd_684 : am_wok (false, (Jvm.Cond.methodLink "java/lang/StringUTF16" (67 : Nat) ({ cls := "java/lang/StringUTF16", name := "checkIndex", desc := "(I[B)V" } : Jvm.MethodName))) := wd_m (tb_3 (i := 52) rfl) rfl
set_option maxRecDepth 100000 in
theorem wd_685 : am_wok (false, (Jvm.Cond.static ({ cls := "java/lang/StringUTF16", name := "checkIndex", desc := "(I[B)V" } : Jvm.MethodName))) := wd_m (tb_3 (i := 53) rfl) rfl
set_option maxRecDepth 100000 in
theorem wd_686 : am_wok (false, (Jvm.Cond.code ({ cls := "java/lang/StringUTF16", name := "checkIndex", desc := "(I[B)V" } : Jvm.MethodName) prog_21_method_91_code (2 : Nat) (Option.none : Option Jvm.ClassFile.FieldType))) := wd_m (tb_3 (i := 54) rfl) rfl
set_option maxRecDepth 100000 in
theorem wd_687 : am_wok (false, (Jvm.Cond.methodLink "java/lang/StringUTF16" (48 : Nat) ({ cls := "java/lang/StringUTF16", name := "length", desc := "([B)I" } : Jvm.MethodName))) := wd_m (tb_3 (i := 55) rfl) rfl
set_option maxRecDepth 100000 in
theorem wd_688 : am_wok (false, (Jvm.Cond.static ({ cls := "java/lang/StringUTF16", name := "length", desc := "([B)I" } : Jvm.MethodName))) := wd_m (tb_3 (i := 56) rfl) rfl
set_option maxRecDepth 100000 in
theorem wd_689 : am_wok (false, (Jvm.Cond.code ({ cls := "java/lang/StringUTF16", name := "length", desc := "([B)I" } : Jvm.MethodName) prog_21_method_6_code (1 : Nat) (Option.some Jvm.ClassFile.FieldType.int))) := wd_m (tb_3 (i := 57) rfl) rfl
set_option maxRecDepth 100000 in
theorem wd_690 : am_wok (false, (Jvm.Cond.methodLink "java/lang/StringUTF16" (414 : Nat) ({ cls := "java/lang/String", name := "checkIndex", desc := "(II)V" } : Jvm.MethodName))) := wd_m (tb_3 (i := 58) rfl) rfl
set_option maxRecDepth 100000 in
theorem wd_691 : am_wok (false, (Jvm.Cond.methodLink "java/lang/StringUTF16" (71 : Nat) ({ cls := "java/lang/StringUTF16", name := "getChar", desc := "([BI)C" } : Jvm.MethodName))) := wd_m (tb_3 (i := 59) rfl) rfl
set_option maxRecDepth 100000 in
theorem wd_692 : am_wok (false, (Jvm.Cond.static ({ cls := "java/lang/StringUTF16", name := "getChar", desc := "([BI)C" } : Jvm.MethodName))) := wd_m (tb_3 (i := 60) rfl) rfl
set_option maxRecDepth 100000 in
theorem wd_693 : am_wok (false, (Jvm.Cond.code ({ cls := "java/lang/StringUTF16", name := "getChar", desc := "([BI)C" } : Jvm.MethodName) prog_21_method_5_code (2 : Nat) (Option.some Jvm.ClassFile.FieldType.char))) := wd_m (tb_3 (i := 61) rfl) rfl
set_option maxRecDepth 100000 in
theorem wd_700 : am_wok (false, (Jvm.Cond.methodLink "OrderMerge$Reader" (137 : Nat) ({ cls := "OrderMerge$Reader", name := "isWord", desc := "(III)Z" } : Jvm.MethodName))) := wd_m (tb_3 (i := 68) rfl) rfl
set_option maxRecDepth 100000 in
theorem wd_702 : am_wok (false, (Jvm.Cond.instanceMethod ({ cls := "OrderMerge$Reader", name := "isWord", desc := "(III)Z" } : Jvm.MethodName))) := wd_m (tb_3 (i := 70) rfl) rfl
set_option maxRecDepth 100000 in
theorem wd_703 : am_wok (false, (Jvm.Cond.code ({ cls := "OrderMerge$Reader", name := "isWord", desc := "(III)Z" } : Jvm.MethodName) prog_10_method_12_code (5 : Nat) (Option.some Jvm.ClassFile.FieldType.boolean))) := wd_m (tb_3 (i := 71) rfl) rfl
set_option maxRecDepth 100000 in
theorem wd_704 : am_wok (false, (Jvm.Cond.methodLink "OrderMerge$Reader" (118 : Nat) ({ cls := "OrderMerge$Reader", name := "numberToken", desc := "(II)I" } : Jvm.MethodName))) := wd_m (tb_3 (i := 72) rfl) rfl
set_option maxRecDepth 100000 in
theorem wd_706 : am_wok (false, (Jvm.Cond.instanceMethod ({ cls := "OrderMerge$Reader", name := "numberToken", desc := "(II)I" } : Jvm.MethodName))) := wd_m (tb_3 (i := 74) rfl) rfl
set_option maxRecDepth 100000 in
theorem wd_707 : am_wok (false, (Jvm.Cond.code ({ cls := "OrderMerge$Reader", name := "numberToken", desc := "(II)I" } : Jvm.MethodName) prog_10_method_10_code (5 : Nat) (Option.some Jvm.ClassFile.FieldType.int))) := wd_m (tb_3 (i := 75) rfl) rfl
set_option maxRecDepth 100000 in
theorem wd_709 : am_wok (false, (Jvm.Cond.methodLink "OrderMerge$Reader" (123 : Nat) ({ cls := "java/lang/String", name := "indexOf", desc := "(I)I" } : Jvm.MethodName))) := wd_m (tb_3 (i := 77) rfl) rfl
set_option maxRecDepth 100000 in
theorem wd_710 : am_wok (false, (Jvm.Cond.instanceMethod ({ cls := "java/lang/String", name := "indexOf", desc := "(I)I" } : Jvm.MethodName))) := wd_m (tb_3 (i := 78) rfl) rfl
set_option maxRecDepth 100000 in
theorem wd_711 : am_wok (false, (Jvm.Cond.selects "java/lang/String" ({ cls := "java/lang/String", name := "indexOf", desc := "(I)I" } : Jvm.MethodName) ({ cls := "java/lang/String", name := "indexOf", desc := "(I)I" } : Jvm.MethodName))) := wd_m (tb_3 (i := 79) rfl) rfl
set_option maxRecDepth 100000 in
theorem wd_712 : am_wok (false, (Jvm.Cond.code ({ cls := "java/lang/String", name := "indexOf", desc := "(I)I" } : Jvm.MethodName) prog_19_method_79_code (2 : Nat) (Option.some Jvm.ClassFile.FieldType.int))) := wd_m (tb_3 (i := 80) rfl) rfl
set_option maxRecDepth 100000 in
theorem wd_713 : am_wok (false, (Jvm.Cond.methodLink "java/lang/String" (633 : Nat) ({ cls := "java/lang/String", name := "indexOf", desc := "(II)I" } : Jvm.MethodName))) := wd_m (tb_3 (i := 81) rfl) rfl
set_option maxRecDepth 100000 in
theorem wd_714 : am_wok (false, (Jvm.Cond.instanceMethod ({ cls := "java/lang/String", name := "indexOf", desc := "(II)I" } : Jvm.MethodName))) := wd_m (tb_3 (i := 82) rfl) rfl
set_option maxRecDepth 100000 in
theorem wd_715 : am_wok (false, (Jvm.Cond.selects "java/lang/String" ({ cls := "java/lang/String", name := "indexOf", desc := "(II)I" } : Jvm.MethodName) ({ cls := "java/lang/String", name := "indexOf", desc := "(II)I" } : Jvm.MethodName))) := wd_m (tb_3 (i := 83) rfl) rfl
set_option maxRecDepth 100000 in
theorem wd_716 : am_wok (false, (Jvm.Cond.code ({ cls := "java/lang/String", name := "indexOf", desc := "(II)I" } : Jvm.MethodName) prog_19_method_80_code (3 : Nat) (Option.some Jvm.ClassFile.FieldType.int))) := wd_m (tb_3 (i := 84) rfl) rfl
set_option maxRecDepth 100000 in
theorem wd_717 : am_wok (false, (Jvm.Cond.methodLink "java/lang/String" (505 : Nat) ({ cls := "java/lang/String", name := "length", desc := "()I" } : Jvm.MethodName))) := wd_m (tb_3 (i := 85) rfl) rfl
set_option maxRecDepth 100000 in
theorem wd_718 : am_wok (false, (Jvm.Cond.methodLink "java/lang/String" (637 : Nat) ({ cls := "java/lang/StringLatin1", name := "indexOf", desc := "([BIII)I" } : Jvm.MethodName))) := wd_m (tb_3 (i := 86) rfl) rfl
set_option maxRecDepth 100000 in
theorem wd_719 : am_wok (false, (Jvm.Cond.static ({ cls := "java/lang/StringLatin1", name := "indexOf", desc := "([BIII)I" } : Jvm.MethodName))) := wd_m (tb_3 (i := 87) rfl) rfl
set_option maxRecDepth 100000 in
theorem wd_720 : am_wok (false, (Jvm.Cond.code ({ cls := "java/lang/StringLatin1", name := "indexOf", desc := "([BIII)I" } : Jvm.MethodName) prog_20_method_22_code (4 : Nat) (Option.some Jvm.ClassFile.FieldType.int))) := wd_m (tb_3 (i := 88) rfl) rfl
set_option maxRecDepth 100000 in
theorem wd_721 : am_wok (false, (Jvm.Cond.methodLink "java/lang/StringLatin1" (88 : Nat) ({ cls := "java/lang/StringLatin1", name := "canEncode", desc := "(I)Z" } : Jvm.MethodName))) := wd_m (tb_3 (i := 89) rfl) rfl
set_option maxRecDepth 100000 in
theorem wd_722 : am_wok (false, (Jvm.Cond.static ({ cls := "java/lang/StringLatin1", name := "canEncode", desc := "(I)Z" } : Jvm.MethodName))) := wd_m (tb_3 (i := 90) rfl) rfl
set_option maxRecDepth 100000 in
theorem wd_723 : am_wok (false, (Jvm.Cond.code ({ cls := "java/lang/StringLatin1", name := "canEncode", desc := "(I)Z" } : Jvm.MethodName) prog_20_method_4_code (1 : Nat) (Option.some Jvm.ClassFile.FieldType.boolean))) := wd_m (tb_3 (i := 91) rfl) rfl
set_option maxRecDepth 100000 in
theorem wd_724 : am_wok (false, (Jvm.Cond.methodLink "java/lang/StringLatin1" (92 : Nat) ({ cls := "java/lang/Math", name := "max", desc := "(II)I" } : Jvm.MethodName))) := wd_m (tb_3 (i := 92) rfl) rfl
set_option maxRecDepth 100000 in
theorem wd_725 : am_wok (false, (Jvm.Cond.methodLink "java/lang/StringLatin1" (38 : Nat) ({ cls := "java/lang/Math", name := "min", desc := "(II)I" } : Jvm.MethodName))) := wd_m (tb_3 (i := 93) rfl) rfl
set_option maxRecDepth 100000 in
theorem wd_726 : am_wok (false, (Jvm.Cond.methodLink "java/lang/StringLatin1" (95 : Nat) ({ cls := "java/lang/StringLatin1", name := "indexOfChar", desc := "([BIII)I" } : Jvm.MethodName))) := wd_m (tb_3 (i := 94) rfl) rfl
set_option maxRecDepth 100000 in
theorem wd_727 : am_wok (false, (Jvm.Cond.static ({ cls := "java/lang/StringLatin1", name := "indexOfChar", desc := "([BIII)I" } : Jvm.MethodName))) := wd_m (tb_3 (i := 95) rfl) rfl
set_option maxRecDepth 100000 in
theorem wd_728 : am_wok (false, (Jvm.Cond.code ({ cls := "java/lang/StringLatin1", name := "indexOfChar", desc := "([BIII)I" } : Jvm.MethodName) prog_20_method_23_code (6 : Nat) (Option.some Jvm.ClassFile.FieldType.int))) := wd_m (tb_3 (i := 96) rfl) rfl
set_option maxRecDepth 100000 in
theorem wd_729 : am_wok (false, (Jvm.Cond.methodLink "java/lang/String" (640 : Nat) ({ cls := "java/lang/StringUTF16", name := "indexOf", desc := "([BIII)I" } : Jvm.MethodName))) := wd_m (tb_3 (i := 97) rfl) rfl
set_option maxRecDepth 100000 in
theorem wd_730 : am_wok (false, (Jvm.Cond.static ({ cls := "java/lang/StringUTF16", name := "indexOf", desc := "([BIII)I" } : Jvm.MethodName))) := wd_m (tb_3 (i := 98) rfl) rfl
set_option maxRecDepth 100000 in
theorem wd_731 : am_wok (false, (Jvm.Cond.code ({ cls := "java/lang/StringUTF16", name := "indexOf", desc := "([BIII)I" } : Jvm.MethodName) prog_21_method_40_code (4 : Nat) (Option.some Jvm.ClassFile.FieldType.int))) := wd_m (tb_3 (i := 99) rfl) rfl
set_option maxRecDepth 100000 in
theorem wd_732 : am_wok (false, (Jvm.Cond.methodLink "java/lang/StringUTF16" (224 : Nat) ({ cls := "java/lang/Math", name := "max", desc := "(II)I" } : Jvm.MethodName))) := wd_m (tb_3 (i := 100) rfl) rfl
set_option maxRecDepth 100000 in
theorem wd_733 : am_wok (false, (Jvm.Cond.methodLink "java/lang/StringUTF16" (183 : Nat) ({ cls := "java/lang/Math", name := "min", desc := "(II)I" } : Jvm.MethodName))) := wd_m (tb_3 (i := 101) rfl) rfl
set_option maxRecDepth 100000 in
theorem wd_734 : am_wok (false, (Jvm.Cond.constant "java/lang/StringUTF16" (227 : Nat) (65536 : Int32))) := wd_m (tb_3 (i := 102) rfl) rfl
set_option maxRecDepth 100000 in
theorem wd_735 : am_wok (false, (Jvm.Cond.methodLink "java/lang/StringUTF16" (228 : Nat) ({ cls := "java/lang/StringUTF16", name := "indexOfChar", desc := "([BIII)I" } : Jvm.MethodName))) := wd_m (tb_3 (i := 103) rfl) rfl
set_option maxRecDepth 100000 in
theorem wd_736 : am_wok (false, (Jvm.Cond.static ({ cls := "java/lang/StringUTF16", name := "indexOfChar", desc := "([BIII)I" } : Jvm.MethodName))) := wd_m (tb_3 (i := 104) rfl) rfl
set_option maxRecDepth 100000 in
theorem wd_737 : am_wok (false, (Jvm.Cond.code ({ cls := "java/lang/StringUTF16", name := "indexOfChar", desc := "([BIII)I" } : Jvm.MethodName) prog_21_method_47_code (4 : Nat) (Option.some Jvm.ClassFile.FieldType.int))) := wd_m (tb_3 (i := 105) rfl) rfl
set_option maxRecDepth 100000 in
theorem wd_738 : am_wok (false, (Jvm.Cond.methodLink "java/lang/StringUTF16" (96 : Nat) ({ cls := "java/lang/StringUTF16", name := "checkBoundsBeginEnd", desc := "(II[B)V" } : Jvm.MethodName))) := wd_m (tb_3 (i := 106) rfl) rfl
set_option maxRecDepth 100000 in
theorem wd_739 : am_wok (false, (Jvm.Cond.static ({ cls := "java/lang/StringUTF16", name := "checkBoundsBeginEnd", desc := "(II[B)V" } : Jvm.MethodName))) := wd_m (tb_3 (i := 107) rfl) rfl
set_option maxRecDepth 100000 in
theorem wd_740 : am_wok (false, (Jvm.Cond.code ({ cls := "java/lang/StringUTF16", name := "checkBoundsBeginEnd", desc := "(II[B)V" } : Jvm.MethodName) prog_21_method_93_code (3 : Nat) (Option.none : Option Jvm.ClassFile.FieldType))) := wd_m (tb_3 (i := 108) rfl) rfl
set_option maxRecDepth 100000 in
theorem wd_741 : am_wok (false, (Jvm.Cond.methodLink "java/lang/StringUTF16" (241 : Nat) ({ cls := "java/lang/String", name := "checkBoundsBeginEnd", desc := "(III)V" } : Jvm.MethodName))) := wd_m (tb_3 (i := 109) rfl) rfl
set_option maxRecDepth 100000 in
theorem wd_742 : am_wok (false, (Jvm.Cond.static ({ cls := "java/lang/String", name := "checkBoundsBeginEnd", desc := "(III)V" } : Jvm.MethodName))) := wd_m (tb_3 (i := 110) rfl) rfl
set_option maxRecDepth 100000 in
theorem wd_743 : am_wok (false, (Jvm.Cond.code ({ cls := "java/lang/String", name := "checkBoundsBeginEnd", desc := "(III)V" } : Jvm.MethodName) prog_19_method_158_code (3 : Nat) (Option.none : Option Jvm.ClassFile.FieldType))) := wd_m (tb_3 (i := 111) rfl) rfl
set_option maxRecDepth 100000 in
theorem wd_744 : am_wok (false, (Jvm.Cond.methodLink "java/lang/String" (1062 : Nat) ({ cls := "jdk/internal/util/Preconditions", name := "checkFromToIndex", desc := "(IIILjava/util/function/BiFunction;)I" } : Jvm.MethodName))) := wd_m (tb_3 (i := 112) rfl) rfl
set_option maxRecDepth 100000 in
theorem wd_745 : am_wok (false, (Jvm.Cond.static ({ cls := "jdk/internal/util/Preconditions", name := "checkFromToIndex", desc := "(IIILjava/util/function/BiFunction;)I" } : Jvm.MethodName))) := wd_m (tb_3 (i := 113) rfl) rfl
set_option maxRecDepth 100000 in
theorem wd_746 : am_wok (false, (Jvm.Cond.code ({ cls := "jdk/internal/util/Preconditions", name := "checkFromToIndex", desc := "(IIILjava/util/function/BiFunction;)I" } : Jvm.MethodName) prog_24_method_12_code (4 : Nat) (Option.some Jvm.ClassFile.FieldType.int))) := wd_m (tb_3 (i := 114) rfl) rfl
set_option maxRecDepth 100000 in
theorem wd_747 : am_wok (false, (Jvm.Cond.methodLink "java/lang/StringUTF16" (244 : Nat) ({ cls := "java/lang/StringUTF16", name := "indexOfCharUnsafe", desc := "([BIII)I" } : Jvm.MethodName))) := wd_m (tb_3 (i := 115) rfl) rfl
set_option maxRecDepth 100000 in
theorem wd_748 : am_wok (false, (Jvm.Cond.static ({ cls := "java/lang/StringUTF16", name := "indexOfCharUnsafe", desc := "([BIII)I" } : Jvm.MethodName))) := wd_m (tb_3 (i := 116) rfl) rfl
set_option maxRecDepth 100000 in
theorem wd_749 : am_wok (false, (Jvm.Cond.code ({ cls := "java/lang/StringUTF16", name := "indexOfCharUnsafe", desc := "([BIII)I" } : Jvm.MethodName) prog_21_method_48_code (5 : Nat) (Option.some Jvm.ClassFile.FieldType.int))) := wd_m (tb_3 (i := 117) rfl) rfl
set_option maxRecDepth 100000 in
theorem wd_750 : am_wok (false, (Jvm.Cond.methodLink "java/lang/StringUTF16" (232 : Nat) ({ cls := "java/lang/StringUTF16", name := "indexOfSupplementary", desc := "([BIII)I" } : Jvm.MethodName))) := wd_m (tb_3 (i := 118) rfl) rfl
set_option maxRecDepth 100000 in
theorem wd_751 : am_wok (false, (Jvm.Cond.static ({ cls := "java/lang/StringUTF16", name := "indexOfSupplementary", desc := "([BIII)I" } : Jvm.MethodName))) := wd_m (tb_3 (i := 119) rfl) rfl
set_option maxRecDepth 100000 in
theorem wd_752 : am_wok (false, (Jvm.Cond.code ({ cls := "java/lang/StringUTF16", name := "indexOfSupplementary", desc := "([BIII)I" } : Jvm.MethodName) prog_21_method_49_code (7 : Nat) (Option.some Jvm.ClassFile.FieldType.int))) := wd_m (tb_3 (i := 120) rfl) rfl
set_option maxRecDepth 100000 in
theorem wd_753 : am_wok (false, (Jvm.Cond.methodLink "java/lang/StringUTF16" (164 : Nat) ({ cls := "java/lang/Character", name := "isValidCodePoint", desc := "(I)Z" } : Jvm.MethodName))) := wd_m (tb_3 (i := 121) rfl) rfl
set_option maxRecDepth 100000 in
theorem wd_754 : am_wok (false, (Jvm.Cond.static ({ cls := "java/lang/Character", name := "isValidCodePoint", desc := "(I)Z" } : Jvm.MethodName))) := wd_m (tb_3 (i := 122) rfl) rfl
set_option maxRecDepth 100000 in
theorem wd_755 : am_wok (false, (Jvm.Cond.code ({ cls := "java/lang/Character", name := "isValidCodePoint", desc := "(I)Z" } : Jvm.MethodName) prog_15_method_11_code (2 : Nat) (Option.some Jvm.ClassFile.FieldType.boolean))) := wd_m (tb_3 (i := 123) rfl) rfl
set_option maxRecDepth 100000 in
theorem wd_756 : am_wok (false, (Jvm.Cond.methodLink "java/lang/StringUTF16" (157 : Nat) ({ cls := "java/lang/Character", name := "highSurrogate", desc := "(I)C" } : Jvm.MethodName))) := wd_m (tb_3 (i := 124) rfl) rfl
set_option maxRecDepth 100000 in
theorem wd_757 : am_wok (false, (Jvm.Cond.static ({ cls := "java/lang/Character", name := "highSurrogate", desc := "(I)C" } : Jvm.MethodName))) := wd_m (tb_3 (i := 125) rfl) rfl
set_option maxRecDepth 100000 in
theorem wd_758 : am_wok (false, (Jvm.Cond.code ({ cls := "java/lang/Character", name := "highSurrogate", desc := "(I)C" } : Jvm.MethodName) prog_15_method_28_code (1 : Nat) (Option.some Jvm.ClassFile.FieldType.char))) := wd_m (tb_3 (i := 126) rfl) rfl
set_option maxRecDepth 100000 in
theorem wd_759 : am_wok (false, (Jvm.Cond.constant "java/lang/Character" (110 : Nat) (55232 : Int32))) := wd_m (tb_3 (i := 127) rfl) rfl
set_option maxRecDepth 100000 in
theorem wd_760 : am_wok (false, (Jvm.Cond.methodLink "java/lang/StringUTF16" (161 : Nat) ({ cls := "java/lang/Character", name := "lowSurrogate", desc := "(I)C" } : Jvm.MethodName))) := wd_m (tb_3 (i := 128) rfl) rfl
set_option maxRecDepth 100000 in
theorem wd_761 : am_wok (false, (Jvm.Cond.static ({ cls := "java/lang/Character", name := "lowSurrogate", desc := "(I)C" } : Jvm.MethodName))) := wd_m (tb_3 (i := 129) rfl) rfl
set_option maxRecDepth 100000 in
theorem wd_762 : am_wok (false, (Jvm.Cond.code ({ cls := "java/lang/Character", name := "lowSurrogate", desc := "(I)C" } : Jvm.MethodName) prog_15_method_29_code (1 : Nat) (Option.some Jvm.ClassFile.FieldType.char))) := wd_m (tb_3 (i := 130) rfl) rfl
set_option maxRecDepth 100000 in
theorem wd_763 : am_wok (false, (Jvm.Cond.constant "java/lang/Character" (76 : Nat) (56320 : Int32))) := wd_m (tb_3 (i := 131) rfl) rfl
set_option maxRecDepth 100000 in
theorem wd_764 : am_wok (false, (Jvm.Cond.methodLink "OrderMerge$Reader" (69 : Nat) ({ cls := "OrderMerge$Reader", name := "step", desc := "()V" } : Jvm.MethodName))) := wd_m (tb_3 (i := 132) rfl) rfl
set_option maxRecDepth 100000 in
theorem wd_766 : am_wok (false, (Jvm.Cond.instanceMethod ({ cls := "OrderMerge$Reader", name := "step", desc := "()V" } : Jvm.MethodName))) := wd_m (tb_3 (i := 134) rfl) rfl
set_option maxRecDepth 100000 in
theorem wd_767 : am_wok (false, (Jvm.Cond.code ({ cls := "OrderMerge$Reader", name := "step", desc := "()V" } : Jvm.MethodName) prog_10_method_13_code (1 : Nat) (Option.none : Option Jvm.ClassFile.FieldType))) := wd_m (tb_3 (i := 135) rfl) rfl
set_option maxRecDepth 100000 in
theorem wd_768 : am_wok (false, (Jvm.Cond.methodLink "OrderMerge$Reader" (72 : Nat) ({ cls := "OrderMerge$Reader", name := "readHouse", desc := "()Z" } : Jvm.MethodName))) := wd_m (tb_3 (i := 136) rfl) rfl
set_option maxRecDepth 100000 in
theorem wd_770 : am_wok (false, (Jvm.Cond.instanceMethod ({ cls := "OrderMerge$Reader", name := "readHouse", desc := "()Z" } : Jvm.MethodName))) := wd_m (tb_3 (i := 138) rfl) rfl
set_option maxRecDepth 100000 in
theorem wd_771 : am_wok (false, (Jvm.Cond.code ({ cls := "OrderMerge$Reader", name := "readHouse", desc := "()Z" } : Jvm.MethodName) prog_10_method_19_code (1 : Nat) (Option.some Jvm.ClassFile.FieldType.boolean))) := wd_m (tb_3 (i := 139) rfl) rfl
set_option maxRecDepth 100000 in
theorem wd_772 : am_wok (false, (Jvm.Cond.methodLink "OrderMerge$Reader" (147 : Nat) ({ cls := "OrderMerge$Reader", name := "pass", desc := "(I)Z" } : Jvm.MethodName))) := wd_m (tb_3 (i := 140) rfl) rfl
set_option maxRecDepth 100000 in
theorem wd_774 : am_wok (false, (Jvm.Cond.instanceMethod ({ cls := "OrderMerge$Reader", name := "pass", desc := "(I)Z" } : Jvm.MethodName))) := wd_m (tb_3 (i := 142) rfl) rfl
set_option maxRecDepth 100000 in
theorem wd_775 : am_wok (false, (Jvm.Cond.code ({ cls := "OrderMerge$Reader", name := "pass", desc := "(I)Z" } : Jvm.MethodName) prog_10_method_16_code (2 : Nat) (Option.some Jvm.ClassFile.FieldType.boolean))) := wd_m (tb_3 (i := 143) rfl) rfl
set_option maxRecDepth 100000 in
theorem wd_776 : am_wok (false, (Jvm.Cond.methodLink "OrderMerge$Reader" (141 : Nat) ({ cls := "OrderMerge$Reader", name := "refuse", desc := "(I)Z" } : Jvm.MethodName))) := wd_m (tb_3 (i := 144) rfl) rfl
set_option maxRecDepth 100000 in
theorem wd_778 : am_wok (false, (Jvm.Cond.instanceMethod ({ cls := "OrderMerge$Reader", name := "refuse", desc := "(I)Z" } : Jvm.MethodName))) := wd_m (tb_3 (i := 146) rfl) rfl
set_option maxRecDepth 100000 in
theorem wd_779 : am_wok (false, (Jvm.Cond.code ({ cls := "OrderMerge$Reader", name := "refuse", desc := "(I)Z" } : Jvm.MethodName) prog_10_method_15_code (2 : Nat) (Option.some Jvm.ClassFile.FieldType.boolean))) := wd_m (tb_3 (i := 147) rfl) rfl
set_option maxRecDepth 100000 in
theorem wd_780 : am_wok (false, (Jvm.Cond.methodLink "OrderMerge$Reader" (153 : Nat) ({ cls := "OrderMerge$Reader", name := "passNumberBelow", desc := "(I)Z" } : Jvm.MethodName))) := wd_m (tb_3 (i := 148) rfl) rfl
set_option maxRecDepth 100000 in
theorem wd_782 : am_wok (false, (Jvm.Cond.instanceMethod ({ cls := "OrderMerge$Reader", name := "passNumberBelow", desc := "(I)Z" } : Jvm.MethodName))) := wd_m (tb_3 (i := 150) rfl) rfl
set_option maxRecDepth 100000 in
theorem wd_783 : am_wok (false, (Jvm.Cond.code ({ cls := "OrderMerge$Reader", name := "passNumberBelow", desc := "(I)Z" } : Jvm.MethodName) prog_10_method_17_code (2 : Nat) (Option.some Jvm.ClassFile.FieldType.boolean))) := wd_m (tb_3 (i := 151) rfl) rfl
set_option maxRecDepth 100000 in
theorem wd_784 : am_wok (false, (Jvm.Cond.methodLink "OrderMerge$Reader" (144 : Nat) ({ cls := "OrderMerge$Reader", name := "isNumber", desc := "()Z" } : Jvm.MethodName))) := wd_m (tb_3 (i := 152) rfl) rfl
set_option maxRecDepth 100000 in
theorem wd_786 : am_wok (false, (Jvm.Cond.instanceMethod ({ cls := "OrderMerge$Reader", name := "isNumber", desc := "()Z" } : Jvm.MethodName))) := wd_m (tb_3 (i := 154) rfl) rfl
set_option maxRecDepth 100000 in
theorem wd_787 : am_wok (false, (Jvm.Cond.code ({ cls := "OrderMerge$Reader", name := "isNumber", desc := "()Z" } : Jvm.MethodName) prog_10_method_14_code (1 : Nat) (Option.some Jvm.ClassFile.FieldType.boolean))) := wd_m (tb_3 (i := 155) rfl) rfl
set_option maxRecDepth 100000 in
theorem wd_788 : am_wok (false, (Jvm.Cond.methodLink "OrderMerge$Reader" (76 : Nat) ({ cls := "OrderMerge$Reader", name := "endLine", desc := "()Z" } : Jvm.MethodName))) := wd_m (tb_3 (i := 156) rfl) rfl
set_option maxRecDepth 100000 in
theorem wd_790 : am_wok (false, (Jvm.Cond.instanceMethod ({ cls := "OrderMerge$Reader", name := "endLine", desc := "()Z" } : Jvm.MethodName))) := wd_m (tb_3 (i := 158) rfl) rfl
set_option maxRecDepth 100000 in
theorem wd_791 : am_wok (false, (Jvm.Cond.code ({ cls := "OrderMerge$Reader", name := "endLine", desc := "()Z" } : Jvm.MethodName) prog_10_method_18_code (1 : Nat) (Option.some Jvm.ClassFile.FieldType.boolean))) := wd_m (tb_3 (i := 159) rfl) rfl
set_option maxRecDepth 100000 in
theorem wd_792 : am_wok (false, (Jvm.Cond.methodLink "OrderMerge$Reader" (82 : Nat) ({ cls := "OrderMerge$Reader", name := "readLine", desc := "()Z" } : Jvm.MethodName))) := wd_m (tb_3 (i := 160) rfl) rfl
set_option maxRecDepth 100000 in
theorem wd_794 : am_wok (false, (Jvm.Cond.instanceMethod ({ cls := "OrderMerge$Reader", name := "readLine", desc := "()Z" } : Jvm.MethodName))) := wd_m (tb_3 (i := 162) rfl) rfl
set_option maxRecDepth 100000 in
theorem wd_795 : am_wok (false, (Jvm.Cond.code ({ cls := "OrderMerge$Reader", name := "readLine", desc := "()Z" } : Jvm.MethodName) prog_10_method_20_code (1 : Nat) (Option.some Jvm.ClassFile.FieldType.boolean))) := wd_m (tb_3 (i := 163) rfl) rfl
set_option maxRecDepth 100000 in
theorem wd_796 : am_wok (false, (Jvm.Cond.methodLink "OrderMerge$Reader" (156 : Nat) ({ cls := "OrderMerge$Reader", name := "readClass", desc := "()Z" } : Jvm.MethodName))) := wd_m (tb_3 (i := 164) rfl) rfl
set_option maxRecDepth 100000 in
theorem wd_798 : am_wok (false, (Jvm.Cond.instanceMethod ({ cls := "OrderMerge$Reader", name := "readClass", desc := "()Z" } : Jvm.MethodName))) := wd_m (tb_3 (i := 166) rfl) rfl
set_option maxRecDepth 100000 in
theorem wd_799 : am_wok (false, (Jvm.Cond.code ({ cls := "OrderMerge$Reader", name := "readClass", desc := "()Z" } : Jvm.MethodName) prog_10_method_21_code (4 : Nat) (Option.some Jvm.ClassFile.FieldType.boolean))) := wd_m (tb_3 (i := 167) rfl) rfl
set_option maxRecDepth 100000 in
theorem wd_800 : am_wok (false, (Jvm.Cond.methodLink "OrderMerge$Reader" (168 : Nat) ({ cls := "OrderMerge$Facts", name := "parentPlace", desc := "(II)I" } : Jvm.MethodName))) := wd_m (tb_3 (i := 168) rfl) rfl
set_option maxRecDepth 100000 in
theorem wd_801 : am_wok (false, (Jvm.Cond.instanceMethod ({ cls := "OrderMerge$Facts", name := "parentPlace", desc := "(II)I" } : Jvm.MethodName))) := wd_m (tb_3 (i := 169) rfl) rfl
set_option maxRecDepth 100000 in
theorem wd_802 : am_wok (false, (Jvm.Cond.selects "OrderMerge$Facts" ({ cls := "OrderMerge$Facts", name := "parentPlace", desc := "(II)I" } : Jvm.MethodName) ({ cls := "OrderMerge$Facts", name := "parentPlace", desc := "(II)I" } : Jvm.MethodName))) := wd_m (tb_3 (i := 170) rfl) rfl
set_option maxRecDepth 100000 in
theorem wd_803 : am_wok (false, (Jvm.Cond.code ({ cls := "OrderMerge$Facts", name := "parentPlace", desc := "(II)I" } : Jvm.MethodName) prog_3_method_7_code (4 : Nat) (Option.some Jvm.ClassFile.FieldType.int))) := wd_m (tb_3 (i := 171) rfl) rfl
set_option maxRecDepth 100000 in
theorem wd_804 : am_wok (false, (Jvm.Cond.methodLink "OrderMerge$Facts" (40 : Nat) ({ cls := "OrderMerge$Facts", name := "parentCount", desc := "(I)I" } : Jvm.MethodName))) := wd_m (tb_3 (i := 172) rfl) rfl
set_option maxRecDepth 100000 in
theorem wd_805 : am_wok (false, (Jvm.Cond.instanceMethod ({ cls := "OrderMerge$Facts", name := "parentCount", desc := "(I)I" } : Jvm.MethodName))) := wd_m (tb_3 (i := 173) rfl) rfl
set_option maxRecDepth 100000 in
theorem wd_806 : am_wok (false, (Jvm.Cond.selects "OrderMerge$Facts" ({ cls := "OrderMerge$Facts", name := "parentCount", desc := "(I)I" } : Jvm.MethodName) ({ cls := "OrderMerge$Facts", name := "parentCount", desc := "(I)I" } : Jvm.MethodName))) := wd_m (tb_3 (i := 174) rfl) rfl
set_option maxRecDepth 100000 in
theorem wd_807 : am_wok (false, (Jvm.Cond.code ({ cls := "OrderMerge$Facts", name := "parentCount", desc := "(I)I" } : Jvm.MethodName) prog_3_method_5_code (2 : Nat) (Option.some Jvm.ClassFile.FieldType.int))) := wd_m (tb_3 (i := 175) rfl) rfl
set_option maxRecDepth 100000 in
theorem wd_808 : am_wok (false, (Jvm.Cond.methodLink "OrderMerge$Facts" (44 : Nat) ({ cls := "OrderMerge$Facts", name := "parentAt", desc := "(II)I" } : Jvm.MethodName))) := wd_m (tb_3 (i := 176) rfl) rfl
set_option maxRecDepth 100000 in
theorem wd_809 : am_wok (false, (Jvm.Cond.instanceMethod ({ cls := "OrderMerge$Facts", name := "parentAt", desc := "(II)I" } : Jvm.MethodName))) := wd_m (tb_3 (i := 177) rfl) rfl
set_option maxRecDepth 100000 in
theorem wd_810 : am_wok (false, (Jvm.Cond.selects "OrderMerge$Facts" ({ cls := "OrderMerge$Facts", name := "parentAt", desc := "(II)I" } : Jvm.MethodName) ({ cls := "OrderMerge$Facts", name := "parentAt", desc := "(II)I" } : Jvm.MethodName))) := wd_m (tb_3 (i := 178) rfl) rfl
set_option maxRecDepth 100000 in
theorem wd_811 : am_wok (false, (Jvm.Cond.code ({ cls := "OrderMerge$Facts", name := "parentAt", desc := "(II)I" } : Jvm.MethodName) prog_3_method_6_code (3 : Nat) (Option.some Jvm.ClassFile.FieldType.int))) := wd_m (tb_3 (i := 179) rfl) rfl
set_option maxRecDepth 100000 in
theorem wd_812 : am_wok (false, (Jvm.Cond.methodLink "OrderMerge$Reader" (171 : Nat) ({ cls := "OrderMerge$Facts", name := "parentCount", desc := "(I)I" } : Jvm.MethodName))) := wd_m (tb_3 (i := 180) rfl) rfl
set_option maxRecDepth 100000 in
theorem wd_813 : am_wok (false, (Jvm.Cond.methodLink "OrderMerge$Reader" (174 : Nat) ({ cls := "OrderMerge$Facts", name := "appendParent", desc := "(II)V" } : Jvm.MethodName))) := wd_m (tb_3 (i := 181) rfl) rfl
set_option maxRecDepth 100000 in
theorem wd_814 : am_wok (false, (Jvm.Cond.instanceMethod ({ cls := "OrderMerge$Facts", name := "appendParent", desc := "(II)V" } : Jvm.MethodName))) := wd_m (tb_3 (i := 182) rfl) rfl
set_option maxRecDepth 100000 in
theorem wd_815 : am_wok (false, (Jvm.Cond.selects "OrderMerge$Facts" ({ cls := "OrderMerge$Facts", name := "appendParent", desc := "(II)V" } : Jvm.MethodName) ({ cls := "OrderMerge$Facts", name := "appendParent", desc := "(II)V" } : Jvm.MethodName))) := wd_m (tb_3 (i := 183) rfl) rfl
set_option maxRecDepth 100000 in
theorem wd_816 : am_wok (false, (Jvm.Cond.code ({ cls := "OrderMerge$Facts", name := "appendParent", desc := "(II)V" } : Jvm.MethodName) prog_3_method_13_code (4 : Nat) (Option.none : Option Jvm.ClassFile.FieldType))) := wd_m (tb_3 (i := 184) rfl) rfl
set_option maxRecDepth 100000 in
theorem wd_817 : am_wok (false, (Jvm.Cond.methodLink "OrderMerge$Reader" (159 : Nat) ({ cls := "OrderMerge$Reader", name := "readMethod", desc := "()Z" } : Jvm.MethodName))) := wd_m (tb_3 (i := 185) rfl) rfl
set_option maxRecDepth 100000 in
theorem wd_819 : am_wok (false, (Jvm.Cond.instanceMethod ({ cls := "OrderMerge$Reader", name := "readMethod", desc := "()Z" } : Jvm.MethodName))) := wd_m (tb_3 (i := 187) rfl) rfl
set_option maxRecDepth 100000 in
theorem wd_820 : am_wok (false, (Jvm.Cond.code ({ cls := "OrderMerge$Reader", name := "readMethod", desc := "()Z" } : Jvm.MethodName) prog_10_method_22_code (3 : Nat) (Option.some Jvm.ClassFile.FieldType.boolean))) := wd_m (tb_3 (i := 188) rfl) rfl
set_option maxRecDepth 100000 in
theorem wd_821 : am_wok (false, (Jvm.Cond.methodLink "OrderMerge$Reader" (178 : Nat) ({ cls := "OrderMerge$Facts", name := "putDefinition", desc := "(III)I" } : Jvm.MethodName))) := wd_m (tb_3 (i := 189) rfl) rfl
set_option maxRecDepth 100000 in
theorem wd_822 : am_wok (false, (Jvm.Cond.instanceMethod ({ cls := "OrderMerge$Facts", name := "putDefinition", desc := "(III)I" } : Jvm.MethodName))) := wd_m (tb_3 (i := 190) rfl) rfl
set_option maxRecDepth 100000 in
theorem wd_823 : am_wok (false, (Jvm.Cond.selects "OrderMerge$Facts" ({ cls := "OrderMerge$Facts", name := "putDefinition", desc := "(III)I" } : Jvm.MethodName) ({ cls := "OrderMerge$Facts", name := "putDefinition", desc := "(III)I" } : Jvm.MethodName))) := wd_m (tb_3 (i := 191) rfl) rfl
set_option maxRecDepth 100000 in
theorem wd_824 : am_wok (false, (Jvm.Cond.code ({ cls := "OrderMerge$Facts", name := "putDefinition", desc := "(III)I" } : Jvm.MethodName) prog_3_method_17_code (5 : Nat) (Option.some Jvm.ClassFile.FieldType.int))) := wd_m (tb_3 (i := 192) rfl) rfl
set_option maxRecDepth 100000 in
theorem wd_825 : am_wok (false, (Jvm.Cond.methodLink "OrderMerge$Facts" (52 : Nat) ({ cls := "OrderMerge$Facts", name := "hasClass", desc := "(I)Z" } : Jvm.MethodName))) := wd_m (tb_3 (i := 193) rfl) rfl
set_option maxRecDepth 100000 in
theorem wd_826 : am_wok (false, (Jvm.Cond.instanceMethod ({ cls := "OrderMerge$Facts", name := "hasClass", desc := "(I)Z" } : Jvm.MethodName))) := wd_m (tb_3 (i := 194) rfl) rfl
set_option maxRecDepth 100000 in
theorem wd_827 : am_wok (false, (Jvm.Cond.selects "OrderMerge$Facts" ({ cls := "OrderMerge$Facts", name := "hasClass", desc := "(I)Z" } : Jvm.MethodName) ({ cls := "OrderMerge$Facts", name := "hasClass", desc := "(I)Z" } : Jvm.MethodName))) := wd_m (tb_3 (i := 195) rfl) rfl
set_option maxRecDepth 100000 in
theorem wd_828 : am_wok (false, (Jvm.Cond.code ({ cls := "OrderMerge$Facts", name := "hasClass", desc := "(I)Z" } : Jvm.MethodName) prog_3_method_4_code (2 : Nat) (Option.some Jvm.ClassFile.FieldType.boolean))) := wd_m (tb_3 (i := 196) rfl) rfl
set_option maxRecDepth 100000 in
theorem wd_829 : am_wok (true, (Jvm.Cond.methodLinkNest "OrderMerge$Facts" (48 : Nat) ({ cls := "OrderMerge", name := "isMethod", desc := "(I)Z" } : Jvm.MethodName) "OrderMerge")) := wd_n (tb_3 (i := 197) rfl) rfl
set_option maxRecDepth 100000 in
theorem wd_830 : am_wok (false, (Jvm.Cond.static ({ cls := "OrderMerge", name := "isMethod", desc := "(I)Z" } : Jvm.MethodName))) := wd_m (tb_3 (i := 198) rfl) rfl
set_option maxRecDepth 100000 in
theorem wd_831 : am_wok (false, (Jvm.Cond.code ({ cls := "OrderMerge", name := "isMethod", desc := "(I)Z" } : Jvm.MethodName) prog_1_method_13_code (1 : Nat) (Option.some Jvm.ClassFile.FieldType.boolean))) := wd_m (tb_3 (i := 199) rfl) rfl
set_option maxRecDepth 100000 in
theorem wd_832 : am_wok (false, (Jvm.Cond.methodLink "OrderMerge$Reader" (162 : Nat) ({ cls := "OrderMerge$Reader", name := "readLaw", desc := "()Z" } : Jvm.MethodName))) := wd_m (tb_3 (i := 200) rfl) rfl
set_option maxRecDepth 100000 in
theorem wd_834 : am_wok (false, (Jvm.Cond.instanceMethod ({ cls := "OrderMerge$Reader", name := "readLaw", desc := "()Z" } : Jvm.MethodName))) := wd_m (tb_3 (i := 202) rfl) rfl
set_option maxRecDepth 100000 in
theorem wd_835 : am_wok (false, (Jvm.Cond.code ({ cls := "OrderMerge$Reader", name := "readLaw", desc := "()Z" } : Jvm.MethodName) prog_10_method_23_code (2 : Nat) (Option.some Jvm.ClassFile.FieldType.boolean))) := wd_m (tb_3 (i := 203) rfl) rfl
set_option maxRecDepth 100000 in
theorem wd_836 : am_wok (false, (Jvm.Cond.methodLink "OrderMerge$Reader" (192 : Nat) ({ cls := "OrderMerge$Reader", name := "readSum", desc := "()Z" } : Jvm.MethodName))) := wd_m (tb_3 (i := 204) rfl) rfl
set_option maxRecDepth 100000 in
theorem wd_838 : am_wok (false, (Jvm.Cond.instanceMethod ({ cls := "OrderMerge$Reader", name := "readSum", desc := "()Z" } : Jvm.MethodName))) := wd_m (tb_3 (i := 206) rfl) rfl
set_option maxRecDepth 100000 in
theorem wd_839 : am_wok (false, (Jvm.Cond.code ({ cls := "OrderMerge$Reader", name := "readSum", desc := "()Z" } : Jvm.MethodName) prog_10_method_27_code (4 : Nat) (Option.some Jvm.ClassFile.FieldType.boolean))) := wd_m (tb_3 (i := 207) rfl) rfl
set_option maxRecDepth 100000 in
theorem wd_840 : am_wok (false, (Jvm.Cond.methodLink "OrderMerge$Reader" (204 : Nat) ({ cls := "OrderMerge$Reader", name := "readTerm", desc := "()Z" } : Jvm.MethodName))) := wd_m (tb_3 (i := 208) rfl) rfl
set_option maxRecDepth 100000 in
theorem wd_842 : am_wok (false, (Jvm.Cond.instanceMethod ({ cls := "OrderMerge$Reader", name := "readTerm", desc := "()Z" } : Jvm.MethodName))) := wd_m (tb_3 (i := 210) rfl) rfl
set_option maxRecDepth 100000 in
theorem wd_843 : am_wok (false, (Jvm.Cond.code ({ cls := "OrderMerge$Reader", name := "readTerm", desc := "()Z" } : Jvm.MethodName) prog_10_method_28_code (3 : Nat) (Option.some Jvm.ClassFile.FieldType.boolean))) := wd_m (tb_3 (i := 211) rfl) rfl
set_option maxRecDepth 100000 in
theorem wd_844 : am_wok (false, (Jvm.Cond.methodLink "OrderMerge$Reader" (211 : Nat) ({ cls := "OrderMerge$Reader", name := "readAtom", desc := "()Z" } : Jvm.MethodName))) := wd_m (tb_3 (i := 212) rfl) rfl
set_option maxRecDepth 100000 in
theorem wd_846 : am_wok (false, (Jvm.Cond.instanceMethod ({ cls := "OrderMerge$Reader", name := "readAtom", desc := "()Z" } : Jvm.MethodName))) := wd_m (tb_3 (i := 214) rfl) rfl
set_option maxRecDepth 100000 in
theorem wd_847 : am_wok (false, (Jvm.Cond.code ({ cls := "OrderMerge$Reader", name := "readAtom", desc := "()Z" } : Jvm.MethodName) prog_10_method_29_code (1 : Nat) (Option.some Jvm.ClassFile.FieldType.boolean))) := wd_m (tb_3 (i := 215) rfl) rfl
set_option maxRecDepth 100000 in
theorem wd_848 : am_wok (false, (Jvm.Cond.methodLink "OrderMerge$Reader" (207 : Nat) ({ cls := "OrderMerge$Reader", name := "emit", desc := "(I)V" } : Jvm.MethodName))) := wd_m (tb_3 (i := 216) rfl) rfl
set_option maxRecDepth 100000 in
theorem wd_850 : am_wok (false, (Jvm.Cond.instanceMethod ({ cls := "OrderMerge$Reader", name := "emit", desc := "(I)V" } : Jvm.MethodName))) := wd_m (tb_3 (i := 218) rfl) rfl
set_option maxRecDepth 100000 in
theorem wd_851 : am_wok (false, (Jvm.Cond.code ({ cls := "OrderMerge$Reader", name := "emit", desc := "(I)V" } : Jvm.MethodName) prog_10_method_24_code (2 : Nat) (Option.none : Option Jvm.ClassFile.FieldType))) := wd_m (tb_3 (i := 219) rfl) rfl
set_option maxRecDepth 100000 in
theorem wd_852 : am_wok (false, (Jvm.Cond.methodLink "OrderMerge$Reader" (214 : Nat) ({ cls := "OrderMerge$Reader", name := "enter", desc := "()Z" } : Jvm.MethodName))) := wd_m (tb_3 (i := 220) rfl) rfl
set_option maxRecDepth 100000 in
theorem wd_854 : am_wok (false, (Jvm.Cond.instanceMethod ({ cls := "OrderMerge$Reader", name := "enter", desc := "()Z" } : Jvm.MethodName))) := wd_m (tb_3 (i := 222) rfl) rfl
set_option maxRecDepth 100000 in
theorem wd_855 : am_wok (false, (Jvm.Cond.code ({ cls := "OrderMerge$Reader", name := "enter", desc := "()Z" } : Jvm.MethodName) prog_10_method_25_code (1 : Nat) (Option.some Jvm.ClassFile.FieldType.boolean))) := wd_m (tb_3 (i := 223) rfl) rfl
set_option maxRecDepth 100000 in
theorem wd_856 : am_wok (false, (Jvm.Cond.methodLink "OrderMerge$Reader" (217 : Nat) ({ cls := "OrderMerge$Reader", name := "leave", desc := "()Z" } : Jvm.MethodName))) := wd_m (tb_3 (i := 224) rfl) rfl
set_option maxRecDepth 100000 in
theorem wd_858 : am_wok (false, (Jvm.Cond.instanceMethod ({ cls := "OrderMerge$Reader", name := "leave", desc := "()Z" } : Jvm.MethodName))) := wd_m (tb_3 (i := 226) rfl) rfl
set_option maxRecDepth 100000 in
theorem wd_859 : am_wok (false, (Jvm.Cond.code ({ cls := "OrderMerge$Reader", name := "leave", desc := "()Z" } : Jvm.MethodName) prog_10_method_26_code (1 : Nat) (Option.some Jvm.ClassFile.FieldType.boolean))) := wd_m (tb_3 (i := 227) rfl) rfl
set_option maxRecDepth 100000 in
theorem wd_860 : am_wok (false, (Jvm.Cond.methodLink "OrderMerge$Reader" (220 : Nat) ({ cls := "OrderMerge$Reader", name := "readChoice", desc := "()Z" } : Jvm.MethodName))) := wd_m (tb_3 (i := 228) rfl) rfl
set_option maxRecDepth 100000 in
theorem wd_862 : am_wok (false, (Jvm.Cond.instanceMethod ({ cls := "OrderMerge$Reader", name := "readChoice", desc := "()Z" } : Jvm.MethodName))) := wd_m (tb_3 (i := 230) rfl) rfl
set_option maxRecDepth 100000 in
theorem wd_863 : am_wok (false, (Jvm.Cond.code ({ cls := "OrderMerge$Reader", name := "readChoice", desc := "()Z" } : Jvm.MethodName) prog_10_method_31_code (2 : Nat) (Option.some Jvm.ClassFile.FieldType.boolean))) := wd_m (tb_3 (i := 231) rfl) rfl
set_option maxRecDepth 100000 in
theorem wd_864 : am_wok (false, (Jvm.Cond.methodLink "OrderMerge$Reader" (195 : Nat) ({ cls := "OrderMerge$Reader", name := "readTruth", desc := "()Z" } : Jvm.MethodName))) := wd_m (tb_3 (i := 232) rfl) rfl
set_option maxRecDepth 100000 in
theorem wd_866 : am_wok (false, (Jvm.Cond.instanceMethod ({ cls := "OrderMerge$Reader", name := "readTruth", desc := "()Z" } : Jvm.MethodName))) := wd_m (tb_3 (i := 234) rfl) rfl
set_option maxRecDepth 100000 in
theorem wd_867 : am_wok (false, (Jvm.Cond.code ({ cls := "OrderMerge$Reader", name := "readTruth", desc := "()Z" } : Jvm.MethodName) prog_10_method_32_code (3 : Nat) (Option.some Jvm.ClassFile.FieldType.boolean))) := wd_m (tb_3 (i := 235) rfl) rfl
set_option maxRecDepth 100000 in
theorem wd_868 : am_wok (false, (Jvm.Cond.methodLink "OrderMerge$Reader" (226 : Nat) ({ cls := "OrderMerge$Reader", name := "readBoth", desc := "()Z" } : Jvm.MethodName))) := wd_m (tb_3 (i := 236) rfl) rfl
set_option maxRecDepth 100000 in
theorem wd_870 : am_wok (false, (Jvm.Cond.instanceMethod ({ cls := "OrderMerge$Reader", name := "readBoth", desc := "()Z" } : Jvm.MethodName))) := wd_m (tb_3 (i := 238) rfl) rfl
set_option maxRecDepth 100000 in
theorem wd_871 : am_wok (false, (Jvm.Cond.code ({ cls := "OrderMerge$Reader", name := "readBoth", desc := "()Z" } : Jvm.MethodName) prog_10_method_33_code (3 : Nat) (Option.some Jvm.ClassFile.FieldType.boolean))) := wd_m (tb_3 (i := 239) rfl) rfl
set_option maxRecDepth 100000 in
theorem wd_872 : am_wok (false, (Jvm.Cond.methodLink "OrderMerge$Reader" (229 : Nat) ({ cls := "OrderMerge$Reader", name := "readUnit", desc := "()Z" } : Jvm.MethodName))) := wd_m (tb_4 (i := 0) rfl) rfl
set_option maxRecDepth 100000 in
theorem wd_874 : am_wok (false, (Jvm.Cond.instanceMethod ({ cls := "OrderMerge$Reader", name := "readUnit", desc := "()Z" } : Jvm.MethodName))) := wd_m (tb_4 (i := 2) rfl) rfl
set_option maxRecDepth 100000 in
theorem wd_875 : am_wok (false, (Jvm.Cond.code ({ cls := "OrderMerge$Reader", name := "readUnit", desc := "()Z" } : Jvm.MethodName) prog_10_method_34_code (2 : Nat) (Option.some Jvm.ClassFile.FieldType.boolean))) := wd_m (tb_4 (i := 3) rfl) rfl
set_option maxRecDepth 100000 in
theorem wd_876 : am_wok (false, (Jvm.Cond.methodLink "OrderMerge$Reader" (232 : Nat) ({ cls := "OrderMerge$Reader", name := "readComparison", desc := "()Z" } : Jvm.MethodName))) := wd_m (tb_4 (i := 4) rfl) rfl
set_option maxRecDepth 100000 in
theorem wd_878 : am_wok (false, (Jvm.Cond.instanceMethod ({ cls := "OrderMerge$Reader", name := "readComparison", desc := "()Z" } : Jvm.MethodName))) := wd_m (tb_4 (i := 6) rfl) rfl
set_option maxRecDepth 100000 in
theorem wd_879 : am_wok (false, (Jvm.Cond.code ({ cls := "OrderMerge$Reader", name := "readComparison", desc := "()Z" } : Jvm.MethodName) prog_10_method_35_code (3 : Nat) (Option.some Jvm.ClassFile.FieldType.boolean))) := wd_m (tb_4 (i := 7) rfl) rfl
set_option maxRecDepth 100000 in
theorem wd_880 : am_wok (false, (Jvm.Cond.methodLink "OrderMerge$Reader" (223 : Nat) ({ cls := "OrderMerge$Reader", name := "readName", desc := "()Z" } : Jvm.MethodName))) := wd_m (tb_4 (i := 8) rfl) rfl
set_option maxRecDepth 100000 in
theorem wd_882 : am_wok (false, (Jvm.Cond.instanceMethod ({ cls := "OrderMerge$Reader", name := "readName", desc := "()Z" } : Jvm.MethodName))) := wd_m (tb_4 (i := 10) rfl) rfl
set_option maxRecDepth 100000 in
theorem wd_883 : am_wok (false, (Jvm.Cond.code ({ cls := "OrderMerge$Reader", name := "readName", desc := "()Z" } : Jvm.MethodName) prog_10_method_30_code (1 : Nat) (Option.some Jvm.ClassFile.FieldType.boolean))) := wd_m (tb_4 (i := 11) rfl) rfl
set_option maxRecDepth 100000 in
theorem wd_884 : am_wok (false, (Jvm.Cond.methodLink "OrderMerge$Reader" (198 : Nat) ({ cls := "java/util/Arrays", name := "copyOf", desc := "([II)[I" } : Jvm.MethodName))) := wd_m (tb_4 (i := 12) rfl) rfl
set_option maxRecDepth 100000 in
theorem wd_885 : am_wok (false, (Jvm.Cond.static ({ cls := "java/util/Arrays", name := "copyOf", desc := "([II)[I" } : Jvm.MethodName))) := wd_m (tb_4 (i := 13) rfl) rfl
set_option maxRecDepth 100000 in
theorem wd_886 : am_wok (false, (Jvm.Cond.code ({ cls := "java/util/Arrays", name := "copyOf", desc := "([II)[I" } : Jvm.MethodName) prog_23_method_123_code (3 : Nat) (Option.some (Jvm.ClassFile.FieldType.array Jvm.ClassFile.FieldType.int)))) := wd_m (tb_4 (i := 14) rfl) rfl
set_option maxRecDepth 100000 in
theorem wd_894 : am_wok (false, (Jvm.Cond.methodLink "java/util/Arrays" (304 : Nat) ({ cls := "java/lang/Math", name := "min", desc := "(II)I" } : Jvm.MethodName))) := wd_m (tb_4 (i := 22) rfl) rfl
set_option maxRecDepth 100000 in
theorem wd_895 : am_wok (false, (Jvm.Cond.methodLink "java/util/Arrays" (150 : Nat) ({ cls := "java/lang/System", name := "arraycopy", desc := "(Ljava/lang/Object;ILjava/lang/Object;II)V" } : Jvm.MethodName))) := wd_m (tb_4 (i := 23) rfl) rfl
set_option maxRecDepth 100000 in
theorem wd_896 : am_wok (false, (Jvm.Cond.static ({ cls := "java/lang/System", name := "arraycopy", desc := "(Ljava/lang/Object;ILjava/lang/Object;II)V" } : Jvm.MethodName))) := wd_m (tb_4 (i := 24) rfl) rfl
set_option maxRecDepth 100000 in
theorem wd_897 : am_wok (false, (Jvm.Cond.native ({ cls := "java/lang/System", name := "arraycopy", desc := "(Ljava/lang/Object;ILjava/lang/Object;II)V" } : Jvm.MethodName))) := wd_m (tb_4 (i := 25) rfl) rfl
set_option maxRecDepth 100000 in
theorem wd_898 : am_wok (false, (Jvm.Cond.methodLink "OrderMerge" (135 : Nat) ({ cls := "OrderMerge$Reader", name := "moveInto", desc := "(LOrderMerge$House;)V" } : Jvm.MethodName))) := wd_m (tb_4 (i := 26) rfl) rfl
set_option maxRecDepth 100000 in
theorem wd_899 : am_wok (false, (Jvm.Cond.instanceMethod ({ cls := "OrderMerge$Reader", name := "moveInto", desc := "(LOrderMerge$House;)V" } : Jvm.MethodName))) := wd_m (tb_4 (i := 27) rfl) rfl
set_option maxRecDepth 100000 in
theorem wd_900 : am_wok (false, (Jvm.Cond.selects "OrderMerge$Reader" ({ cls := "OrderMerge$Reader", name := "moveInto", desc := "(LOrderMerge$House;)V" } : Jvm.MethodName) ({ cls := "OrderMerge$Reader", name := "moveInto", desc := "(LOrderMerge$House;)V" } : Jvm.MethodName))) := wd_m (tb_4 (i := 28) rfl) rfl
set_option maxRecDepth 100000 in
theorem wd_901 : am_wok (false, (Jvm.Cond.code ({ cls := "OrderMerge$Reader", name := "moveInto", desc := "(LOrderMerge$House;)V" } : Jvm.MethodName) prog_10_method_3_code (2 : Nat) (Option.none : Option Jvm.ClassFile.FieldType))) := wd_m (tb_4 (i := 29) rfl) rfl
set_option maxRecDepth 100000 in
theorem wd_902 : am_wok (false, (Jvm.Cond.methodLink "OrderMerge$Reader" (88 : Nat) ({ cls := "OrderMerge$Facts", name := "copyFrom", desc := "(LOrderMerge$Facts;)V" } : Jvm.MethodName))) := wd_m (tb_4 (i := 30) rfl) rfl
set_option maxRecDepth 100000 in
theorem wd_903 : am_wok (false, (Jvm.Cond.instanceMethod ({ cls := "OrderMerge$Facts", name := "copyFrom", desc := "(LOrderMerge$Facts;)V" } : Jvm.MethodName))) := wd_m (tb_4 (i := 31) rfl) rfl
set_option maxRecDepth 100000 in
theorem wd_904 : am_wok (false, (Jvm.Cond.selects "OrderMerge$Facts" ({ cls := "OrderMerge$Facts", name := "copyFrom", desc := "(LOrderMerge$Facts;)V" } : Jvm.MethodName) ({ cls := "OrderMerge$Facts", name := "copyFrom", desc := "(LOrderMerge$Facts;)V" } : Jvm.MethodName))) := wd_m (tb_4 (i := 32) rfl) rfl
set_option maxRecDepth 100000 in
theorem wd_905 : am_wok (false, (Jvm.Cond.code ({ cls := "OrderMerge$Facts", name := "copyFrom", desc := "(LOrderMerge$Facts;)V" } : Jvm.MethodName) prog_3_method_3_code (2 : Nat) (Option.none : Option Jvm.ClassFile.FieldType))) := wd_m (tb_4 (i := 33) rfl) rfl
set_option maxRecDepth 100000 in
theorem wd_906 : am_wok (false, (Jvm.Cond.methodLink "OrderMerge$Facts" (34 : Nat) ({ cls := "java/lang/System", name := "arraycopy", desc := "(Ljava/lang/Object;ILjava/lang/Object;II)V" } : Jvm.MethodName))) := wd_m (tb_4 (i := 34) rfl) rfl
set_option maxRecDepth 100000 in
theorem wd_907 : am_wok (false, (Jvm.Cond.methodLink "OrderMerge" (139 : Nat) ({ cls := "OrderMerge$Past", name := "forget", desc := "()V" } : Jvm.MethodName))) := wd_m (tb_4 (i := 35) rfl) rfl
set_option maxRecDepth 100000 in
theorem wd_908 : am_wok (false, (Jvm.Cond.instanceMethod ({ cls := "OrderMerge$Past", name := "forget", desc := "()V" } : Jvm.MethodName))) := wd_m (tb_4 (i := 36) rfl) rfl
set_option maxRecDepth 100000 in
theorem wd_909 : am_wok (false, (Jvm.Cond.selects "OrderMerge$Past" ({ cls := "OrderMerge$Past", name := "forget", desc := "()V" } : Jvm.MethodName) ({ cls := "OrderMerge$Past", name := "forget", desc := "()V" } : Jvm.MethodName))) := wd_m (tb_4 (i := 37) rfl) rfl
set_option maxRecDepth 100000 in
theorem wd_910 : am_wok (false, (Jvm.Cond.code ({ cls := "OrderMerge$Past", name := "forget", desc := "()V" } : Jvm.MethodName) prog_9_method_2_code (1 : Nat) (Option.none : Option Jvm.ClassFile.FieldType))) := wd_m (tb_4 (i := 38) rfl) rfl
set_option maxRecDepth 100000 in
theorem wd_911 : am_wok (false, (Jvm.Cond.methodLink "OrderMerge" (142 : Nat) ({ cls := "OrderMerge", name := "settleAgain", desc := "()V" } : Jvm.MethodName))) := wd_m (tb_4 (i := 39) rfl) rfl
set_option maxRecDepth 100000 in
theorem wd_913 : am_wok (false, (Jvm.Cond.instanceMethod ({ cls := "OrderMerge", name := "settleAgain", desc := "()V" } : Jvm.MethodName))) := wd_m (tb_4 (i := 41) rfl) rfl
set_option maxRecDepth 100000 in
theorem wd_914 : am_wok (false, (Jvm.Cond.code ({ cls := "OrderMerge", name := "settleAgain", desc := "()V" } : Jvm.MethodName) prog_1_method_14_code (1 : Nat) (Option.none : Option Jvm.ClassFile.FieldType))) := wd_m (tb_4 (i := 42) rfl) rfl
set_option maxRecDepth 100000 in
theorem wd_915 : am_wok (false, (Jvm.Cond.methodLink "OrderMerge" (178 : Nat) ({ cls := "OrderMerge$Orders", name := "settleAll", desc := "(LOrderMerge$Facts;)V" } : Jvm.MethodName))) := wd_m (tb_4 (i := 43) rfl) rfl
set_option maxRecDepth 100000 in
theorem wd_916 : am_wok (false, (Jvm.Cond.instanceMethod ({ cls := "OrderMerge$Orders", name := "settleAll", desc := "(LOrderMerge$Facts;)V" } : Jvm.MethodName))) := wd_m (tb_4 (i := 44) rfl) rfl
set_option maxRecDepth 100000 in
theorem wd_917 : am_wok (false, (Jvm.Cond.selects "OrderMerge$Orders" ({ cls := "OrderMerge$Orders", name := "settleAll", desc := "(LOrderMerge$Facts;)V" } : Jvm.MethodName) ({ cls := "OrderMerge$Orders", name := "settleAll", desc := "(LOrderMerge$Facts;)V" } : Jvm.MethodName))) := wd_m (tb_4 (i := 45) rfl) rfl
set_option maxRecDepth 100000 in
theorem wd_918 : am_wok (false, (Jvm.Cond.code ({ cls := "OrderMerge$Orders", name := "settleAll", desc := "(LOrderMerge$Facts;)V" } : Jvm.MethodName) prog_8_method_8_code (3 : Nat) (Option.none : Option Jvm.ClassFile.FieldType))) := wd_m (tb_4 (i := 46) rfl) rfl
set_option maxRecDepth 100000 in
theorem wd_919 : am_wok (false, (Jvm.Cond.methodLink "OrderMerge$Orders" (47 : Nat) ({ cls := "java/util/Arrays", name := "fill", desc := "([II)V" } : Jvm.MethodName))) := wd_m (tb_4 (i := 47) rfl) rfl
set_option maxRecDepth 100000 in
theorem wd_920 : am_wok (false, (Jvm.Cond.methodLink "OrderMerge$Orders" (59 : Nat) ({ cls := "OrderMerge$Facts", name := "listParents", desc := "(II[I)I" } : Jvm.MethodName))) := wd_m (tb_4 (i := 48) rfl) rfl
set_option maxRecDepth 100000 in
theorem wd_921 : am_wok (false, (Jvm.Cond.instanceMethod ({ cls := "OrderMerge$Facts", name := "listParents", desc := "(II[I)I" } : Jvm.MethodName))) := wd_m (tb_4 (i := 49) rfl) rfl
set_option maxRecDepth 100000 in
theorem wd_922 : am_wok (false, (Jvm.Cond.selects "OrderMerge$Facts" ({ cls := "OrderMerge$Facts", name := "listParents", desc := "(II[I)I" } : Jvm.MethodName) ({ cls := "OrderMerge$Facts", name := "listParents", desc := "(II[I)I" } : Jvm.MethodName))) := wd_m (tb_4 (i := 50) rfl) rfl
set_option maxRecDepth 100000 in
theorem wd_923 : am_wok (false, (Jvm.Cond.code ({ cls := "OrderMerge$Facts", name := "listParents", desc := "(II[I)I" } : Jvm.MethodName) prog_3_method_8_code (6 : Nat) (Option.some Jvm.ClassFile.FieldType.int))) := wd_m (tb_4 (i := 51) rfl) rfl
set_option maxRecDepth 100000 in
theorem wd_924 : am_wok (false, (Jvm.Cond.methodLink "OrderMerge$Orders" (63 : Nat) ({ cls := "OrderMerge$Orders", name := "settle", desc := "(I[II)I" } : Jvm.MethodName))) := wd_m (tb_4 (i := 52) rfl) rfl
set_option maxRecDepth 100000 in
theorem wd_925 : am_wok (false, (Jvm.Cond.instanceMethod ({ cls := "OrderMerge$Orders", name := "settle", desc := "(I[II)I" } : Jvm.MethodName))) := wd_m (tb_4 (i := 53) rfl) rfl
set_option maxRecDepth 100000 in
theorem wd_926 : am_wok (false, (Jvm.Cond.selects "OrderMerge$Orders" ({ cls := "OrderMerge$Orders", name := "settle", desc := "(I[II)I" } : Jvm.MethodName) ({ cls := "OrderMerge$Orders", name := "settle", desc := "(I[II)I" } : Jvm.MethodName))) := wd_m (tb_4 (i := 54) rfl) rfl
set_option maxRecDepth 100000 in
theorem wd_927 : am_wok (false, (Jvm.Cond.code ({ cls := "OrderMerge$Orders", name := "settle", desc := "(I[II)I" } : Jvm.MethodName) prog_8_method_11_code (6 : Nat) (Option.some Jvm.ClassFile.FieldType.int))) := wd_m (tb_4 (i := 55) rfl) rfl
set_option maxRecDepth 100000 in
theorem wd_928 : am_wok (false, (Jvm.Cond.methodLink "OrderMerge$Orders" (67 : Nat) ({ cls := "OrderMerge$Orders", name := "hasOrder", desc := "(I)Z" } : Jvm.MethodName))) := wd_m (tb_4 (i := 56) rfl) rfl
set_option maxRecDepth 100000 in
theorem wd_929 : am_wok (false, (Jvm.Cond.instanceMethod ({ cls := "OrderMerge$Orders", name := "hasOrder", desc := "(I)Z" } : Jvm.MethodName))) := wd_m (tb_4 (i := 57) rfl) rfl
set_option maxRecDepth 100000 in
theorem wd_930 : am_wok (false, (Jvm.Cond.selects "OrderMerge$Orders" ({ cls := "OrderMerge$Orders", name := "hasOrder", desc := "(I)Z" } : Jvm.MethodName) ({ cls := "OrderMerge$Orders", name := "hasOrder", desc := "(I)Z" } : Jvm.MethodName))) := wd_m (tb_4 (i := 58) rfl) rfl
set_option maxRecDepth 100000 in
theorem wd_931 : am_wok (false, (Jvm.Cond.code ({ cls := "OrderMerge$Orders", name := "hasOrder", desc := "(I)Z" } : Jvm.MethodName) prog_8_method_3_code (2 : Nat) (Option.some Jvm.ClassFile.FieldType.boolean))) := wd_m (tb_4 (i := 59) rfl) rfl
set_option maxRecDepth 100000 in
theorem wd_932 : am_wok (false, (Jvm.Cond.methodLink "OrderMerge$Orders" (71 : Nat) ({ cls := "OrderMerge$Orders", name := "layRows", desc := "([II)V" } : Jvm.MethodName))) := wd_m (tb_4 (i := 60) rfl) rfl
set_option maxRecDepth 100000 in
theorem wd_934 : am_wok (false, (Jvm.Cond.instanceMethod ({ cls := "OrderMerge$Orders", name := "layRows", desc := "([II)V" } : Jvm.MethodName))) := wd_m (tb_4 (i := 62) rfl) rfl
set_option maxRecDepth 100000 in
theorem wd_935 : am_wok (false, (Jvm.Cond.code ({ cls := "OrderMerge$Orders", name := "layRows", desc := "([II)V" } : Jvm.MethodName) prog_8_method_12_code (7 : Nat) (Option.none : Option Jvm.ClassFile.FieldType))) := wd_m (tb_4 (i := 63) rfl) rfl
set_option maxRecDepth 100000 in
theorem wd_936 : am_wok (false, (Jvm.Cond.methodLink "OrderMerge$Orders" (39 : Nat) ({ cls := "OrderMerge$Orders", name := "sizeOf", desc := "(I)I" } : Jvm.MethodName))) := wd_m (tb_4 (i := 64) rfl) rfl
set_option maxRecDepth 100000 in
theorem wd_937 : am_wok (false, (Jvm.Cond.instanceMethod ({ cls := "OrderMerge$Orders", name := "sizeOf", desc := "(I)I" } : Jvm.MethodName))) := wd_m (tb_4 (i := 65) rfl) rfl
set_option maxRecDepth 100000 in
theorem wd_938 : am_wok (false, (Jvm.Cond.selects "OrderMerge$Orders" ({ cls := "OrderMerge$Orders", name := "sizeOf", desc := "(I)I" } : Jvm.MethodName) ({ cls := "OrderMerge$Orders", name := "sizeOf", desc := "(I)I" } : Jvm.MethodName))) := wd_m (tb_4 (i := 66) rfl) rfl
set_option maxRecDepth 100000 in
theorem wd_939 : am_wok (false, (Jvm.Cond.code ({ cls := "OrderMerge$Orders", name := "sizeOf", desc := "(I)I" } : Jvm.MethodName) prog_8_method_4_code (2 : Nat) (Option.some Jvm.ClassFile.FieldType.int))) := wd_m (tb_4 (i := 67) rfl) rfl
set_option maxRecDepth 100000 in
theorem wd_940 : am_wok (false, (Jvm.Cond.methodLink "OrderMerge$Orders" (84 : Nat) ({ cls := "java/lang/Math", name := "min", desc := "(II)I" } : Jvm.MethodName))) := wd_m (tb_4 (i := 68) rfl) rfl
set_option maxRecDepth 100000 in
theorem wd_941 : am_wok (false, (Jvm.Cond.methodLink "OrderMerge$Orders" (43 : Nat) ({ cls := "OrderMerge$Orders", name := "at", desc := "(II)I" } : Jvm.MethodName))) := wd_m (tb_4 (i := 69) rfl) rfl
set_option maxRecDepth 100000 in
theorem wd_942 : am_wok (false, (Jvm.Cond.instanceMethod ({ cls := "OrderMerge$Orders", name := "at", desc := "(II)I" } : Jvm.MethodName))) := wd_m (tb_4 (i := 70) rfl) rfl
set_option maxRecDepth 100000 in
theorem wd_943 : am_wok (false, (Jvm.Cond.selects "OrderMerge$Orders" ({ cls := "OrderMerge$Orders", name := "at", desc := "(II)I" } : Jvm.MethodName) ({ cls := "OrderMerge$Orders", name := "at", desc := "(II)I" } : Jvm.MethodName))) := wd_m (tb_4 (i := 71) rfl) rfl
set_option maxRecDepth 100000 in
theorem wd_944 : am_wok (false, (Jvm.Cond.code ({ cls := "OrderMerge$Orders", name := "at", desc := "(II)I" } : Jvm.MethodName) prog_8_method_5_code (3 : Nat) (Option.some Jvm.ClassFile.FieldType.int))) := wd_m (tb_4 (i := 72) rfl) rfl
set_option maxRecDepth 100000 in
theorem wd_945 : am_wok (false, (Jvm.Cond.methodLink "OrderMerge$Orders" (74 : Nat) ({ cls := "OrderMerge$Orders", name := "firstFree", desc := "(I)I" } : Jvm.MethodName))) := wd_m (tb_4 (i := 73) rfl) rfl
set_option maxRecDepth 100000 in
theorem wd_947 : am_wok (false, (Jvm.Cond.instanceMethod ({ cls := "OrderMerge$Orders", name := "firstFree", desc := "(I)I" } : Jvm.MethodName))) := wd_m (tb_4 (i := 75) rfl) rfl
set_option maxRecDepth 100000 in
theorem wd_948 : am_wok (false, (Jvm.Cond.code ({ cls := "OrderMerge$Orders", name := "firstFree", desc := "(I)I" } : Jvm.MethodName) prog_8_method_13_code (4 : Nat) (Option.some Jvm.ClassFile.FieldType.int))) := wd_m (tb_4 (i := 76) rfl) rfl
set_option maxRecDepth 100000 in
theorem wd_949 : am_wok (false, (Jvm.Cond.methodLink "OrderMerge$Orders" (77 : Nat) ({ cls := "OrderMerge$Orders", name := "takeFromAll", desc := "(II)V" } : Jvm.MethodName))) := wd_m (tb_4 (i := 77) rfl) rfl
set_option maxRecDepth 100000 in
theorem wd_951 : am_wok (false, (Jvm.Cond.instanceMethod ({ cls := "OrderMerge$Orders", name := "takeFromAll", desc := "(II)V" } : Jvm.MethodName))) := wd_m (tb_4 (i := 79) rfl) rfl
set_option maxRecDepth 100000 in
theorem wd_952 : am_wok (false, (Jvm.Cond.code ({ cls := "OrderMerge$Orders", name := "takeFromAll", desc := "(II)V" } : Jvm.MethodName) prog_8_method_14_code (5 : Nat) (Option.none : Option Jvm.ClassFile.FieldType))) := wd_m (tb_4 (i := 80) rfl) rfl
set_option maxRecDepth 100000 in
theorem wd_953 : am_wok (false, (Jvm.Cond.methodLink "OrderMerge$Orders" (81 : Nat) ({ cls := "OrderMerge$Orders", name := "isAllTaken", desc := "(I)Z" } : Jvm.MethodName))) := wd_m (tb_4 (i := 81) rfl) rfl
set_option maxRecDepth 100000 in
theorem wd_955 : am_wok (false, (Jvm.Cond.instanceMethod ({ cls := "OrderMerge$Orders", name := "isAllTaken", desc := "(I)Z" } : Jvm.MethodName))) := wd_m (tb_4 (i := 83) rfl) rfl
set_option maxRecDepth 100000 in
theorem wd_956 : am_wok (false, (Jvm.Cond.code ({ cls := "OrderMerge$Orders", name := "isAllTaken", desc := "(I)Z" } : Jvm.MethodName) prog_8_method_15_code (3 : Nat) (Option.some Jvm.ClassFile.FieldType.boolean))) := wd_m (tb_4 (i := 84) rfl) rfl
set_option maxRecDepth 100000 in
theorem wd_957 : am_wok (false, (Jvm.Cond.methodLink "OrderMergeLaw" (23 : Nat) ({ cls := "OrderMerge", name := "fault", desc := "(I)I" } : Jvm.MethodName))) := wd_m (tb_4 (i := 85) rfl) rfl
set_option maxRecDepth 100000 in
theorem wd_958 : am_wok (false, (Jvm.Cond.instanceMethod ({ cls := "OrderMerge", name := "fault", desc := "(I)I" } : Jvm.MethodName))) := wd_m (tb_4 (i := 86) rfl) rfl
set_option maxRecDepth 100000 in
theorem wd_959 : am_wok (false, (Jvm.Cond.selects "OrderMerge" ({ cls := "OrderMerge", name := "fault", desc := "(I)I" } : Jvm.MethodName) ({ cls := "OrderMerge", name := "fault", desc := "(I)I" } : Jvm.MethodName))) := wd_m (tb_4 (i := 87) rfl) rfl
set_option maxRecDepth 100000 in
theorem wd_960 : am_wok (false, (Jvm.Cond.code ({ cls := "OrderMerge", name := "fault", desc := "(I)I" } : Jvm.MethodName) prog_1_method_5_code (2 : Nat) (Option.some Jvm.ClassFile.FieldType.int))) := wd_m (tb_4 (i := 88) rfl) rfl
set_option maxRecDepth 100000 in
theorem wd_961 : am_wok (false, (Jvm.Cond.methodLink "OrderMergeLaw" (27 : Nat) ({ cls := "OrderMerge", name := "parent", desc := "(II)I" } : Jvm.MethodName))) := wd_m (tb_4 (i := 89) rfl) rfl
set_option maxRecDepth 100000 in
theorem wd_962 : am_wok (false, (Jvm.Cond.instanceMethod ({ cls := "OrderMerge", name := "parent", desc := "(II)I" } : Jvm.MethodName))) := wd_m (tb_4 (i := 90) rfl) rfl
set_option maxRecDepth 100000 in
theorem wd_963 : am_wok (false, (Jvm.Cond.selects "OrderMerge" ({ cls := "OrderMerge", name := "parent", desc := "(II)I" } : Jvm.MethodName) ({ cls := "OrderMerge", name := "parent", desc := "(II)I" } : Jvm.MethodName))) := wd_m (tb_4 (i := 91) rfl) rfl
set_option maxRecDepth 100000 in
theorem wd_964 : am_wok (false, (Jvm.Cond.code ({ cls := "OrderMerge", name := "parent", desc := "(II)I" } : Jvm.MethodName) prog_1_method_6_code (3 : Nat) (Option.some Jvm.ClassFile.FieldType.int))) := wd_m (tb_4 (i := 92) rfl) rfl
set_option maxRecDepth 100000 in
theorem wd_965 : am_wok (false, (Jvm.Cond.methodLink "OrderMerge" (148 : Nat) ({ cls := "OrderMerge$Facts", name := "hasClass", desc := "(I)Z" } : Jvm.MethodName))) := wd_m (tb_4 (i := 93) rfl) rfl
set_option maxRecDepth 100000 in
theorem wd_966 : am_wok (false, (Jvm.Cond.methodLink "OrderMerge" (152 : Nat) ({ cls := "OrderMerge$Facts", name := "parentAt", desc := "(II)I" } : Jvm.MethodName))) := wd_m (tb_4 (i := 94) rfl) rfl
set_option maxRecDepth 100000 in
theorem wd_967 : am_wok (false, (Jvm.Cond.methodLink "OrderMergeLaw" (32 : Nat) ({ cls := "OrderMerge", name := "defines", desc := "(II)I" } : Jvm.MethodName))) := wd_m (tb_4 (i := 95) rfl) rfl
set_option maxRecDepth 100000 in
theorem wd_968 : am_wok (false, (Jvm.Cond.instanceMethod ({ cls := "OrderMerge", name := "defines", desc := "(II)I" } : Jvm.MethodName))) := wd_m (tb_4 (i := 96) rfl) rfl
set_option maxRecDepth 100000 in
theorem wd_969 : am_wok (false, (Jvm.Cond.selects "OrderMerge" ({ cls := "OrderMerge", name := "defines", desc := "(II)I" } : Jvm.MethodName) ({ cls := "OrderMerge", name := "defines", desc := "(II)I" } : Jvm.MethodName))) := wd_m (tb_4 (i := 97) rfl) rfl
set_option maxRecDepth 100000 in
theorem wd_970 : am_wok (false, (Jvm.Cond.code ({ cls := "OrderMerge", name := "defines", desc := "(II)I" } : Jvm.MethodName) prog_1_method_7_code (3 : Nat) (Option.some Jvm.ClassFile.FieldType.int))) := wd_m (tb_4 (i := 98) rfl) rfl
set_option maxRecDepth 100000 in
theorem wd_971 : am_wok (false, (Jvm.Cond.methodLink "OrderMerge" (156 : Nat) ({ cls := "OrderMerge", name := "isMethod", desc := "(I)Z" } : Jvm.MethodName))) := wd_m (tb_4 (i := 99) rfl) rfl
set_option maxRecDepth 100000 in
theorem wd_972 : am_wok (false, (Jvm.Cond.methodLink "OrderMerge" (159 : Nat) ({ cls := "OrderMerge$Facts", name := "definitionAt", desc := "(II)I" } : Jvm.MethodName))) := wd_m (tb_4 (i := 100) rfl) rfl
set_option maxRecDepth 100000 in
theorem wd_973 : am_wok (false, (Jvm.Cond.instanceMethod ({ cls := "OrderMerge$Facts", name := "definitionAt", desc := "(II)I" } : Jvm.MethodName))) := wd_m (tb_4 (i := 101) rfl) rfl
set_option maxRecDepth 100000 in
theorem wd_974 : am_wok (false, (Jvm.Cond.selects "OrderMerge$Facts" ({ cls := "OrderMerge$Facts", name := "definitionAt", desc := "(II)I" } : Jvm.MethodName) ({ cls := "OrderMerge$Facts", name := "definitionAt", desc := "(II)I" } : Jvm.MethodName))) := wd_m (tb_4 (i := 102) rfl) rfl
set_option maxRecDepth 100000 in
theorem wd_975 : am_wok (false, (Jvm.Cond.code ({ cls := "OrderMerge$Facts", name := "definitionAt", desc := "(II)I" } : Jvm.MethodName) prog_3_method_9_code (3 : Nat) (Option.some Jvm.ClassFile.FieldType.int))) := wd_m (tb_4 (i := 103) rfl) rfl
set_option maxRecDepth 100000 in
theorem wd_976 : am_wok (false, (Jvm.Cond.methodLink "OrderMergeLaw" (36 : Nat) ({ cls := "OrderMerge", name := "state", desc := "(I)I" } : Jvm.MethodName))) := wd_m (tb_4 (i := 104) rfl) rfl
set_option maxRecDepth 100000 in
theorem wd_977 : am_wok (false, (Jvm.Cond.instanceMethod ({ cls := "OrderMerge", name := "state", desc := "(I)I" } : Jvm.MethodName))) := wd_m (tb_4 (i := 105) rfl) rfl
set_option maxRecDepth 100000 in
theorem wd_978 : am_wok (false, (Jvm.Cond.selects "OrderMerge" ({ cls := "OrderMerge", name := "state", desc := "(I)I" } : Jvm.MethodName) ({ cls := "OrderMerge", name := "state", desc := "(I)I" } : Jvm.MethodName))) := wd_m (tb_4 (i := 106) rfl) rfl
set_option maxRecDepth 100000 in
theorem wd_979 : am_wok (false, (Jvm.Cond.code ({ cls := "OrderMerge", name := "state", desc := "(I)I" } : Jvm.MethodName) prog_1_method_8_code (2 : Nat) (Option.some Jvm.ClassFile.FieldType.int))) := wd_m (tb_4 (i := 107) rfl) rfl
set_option maxRecDepth 100000 in
theorem wd_980 : am_wok (false, (Jvm.Cond.methodLink "OrderMerge" (162 : Nat) ({ cls := "OrderMerge$Orders", name := "stateOf", desc := "(I)I" } : Jvm.MethodName))) := wd_m (tb_4 (i := 108) rfl) rfl
set_option maxRecDepth 100000 in
theorem wd_981 : am_wok (false, (Jvm.Cond.instanceMethod ({ cls := "OrderMerge$Orders", name := "stateOf", desc := "(I)I" } : Jvm.MethodName))) := wd_m (tb_4 (i := 109) rfl) rfl
set_option maxRecDepth 100000 in
theorem wd_982 : am_wok (false, (Jvm.Cond.selects "OrderMerge$Orders" ({ cls := "OrderMerge$Orders", name := "stateOf", desc := "(I)I" } : Jvm.MethodName) ({ cls := "OrderMerge$Orders", name := "stateOf", desc := "(I)I" } : Jvm.MethodName))) := wd_m (tb_4 (i := 110) rfl) rfl
set_option maxRecDepth 100000 in
theorem wd_983 : am_wok (false, (Jvm.Cond.code ({ cls := "OrderMerge$Orders", name := "stateOf", desc := "(I)I" } : Jvm.MethodName) prog_8_method_2_code (2 : Nat) (Option.some Jvm.ClassFile.FieldType.int))) := wd_m (tb_4 (i := 111) rfl) rfl
set_option maxRecDepth 100000 in
theorem wd_984 : am_wok (false, (Jvm.Cond.methodLink "OrderMergeLaw" (40 : Nat) ({ cls := "OrderMerge", name := "order", desc := "(II)I" } : Jvm.MethodName))) := wd_m (tb_4 (i := 112) rfl) rfl
set_option maxRecDepth 100000 in
theorem wd_985 : am_wok (false, (Jvm.Cond.instanceMethod ({ cls := "OrderMerge", name := "order", desc := "(II)I" } : Jvm.MethodName))) := wd_m (tb_4 (i := 113) rfl) rfl
set_option maxRecDepth 100000 in
theorem wd_986 : am_wok (false, (Jvm.Cond.selects "OrderMerge" ({ cls := "OrderMerge", name := "order", desc := "(II)I" } : Jvm.MethodName) ({ cls := "OrderMerge", name := "order", desc := "(II)I" } : Jvm.MethodName))) := wd_m (tb_4 (i := 114) rfl) rfl
set_option maxRecDepth 100000 in
theorem wd_987 : am_wok (false, (Jvm.Cond.code ({ cls := "OrderMerge", name := "order", desc := "(II)I" } : Jvm.MethodName) prog_1_method_9_code (3 : Nat) (Option.some Jvm.ClassFile.FieldType.int))) := wd_m (tb_4 (i := 115) rfl) rfl
set_option maxRecDepth 100000 in
theorem wd_988 : am_wok (false, (Jvm.Cond.methodLink "OrderMerge" (166 : Nat) ({ cls := "OrderMerge$Orders", name := "at", desc := "(II)I" } : Jvm.MethodName))) := wd_m (tb_4 (i := 116) rfl) rfl
set_option maxRecDepth 100000 in
theorem wd_989 : am_wok (false, (Jvm.Cond.methodLink "OrderMergeLaw" (44 : Nat) ({ cls := "OrderMerge", name := "place", desc := "(II)I" } : Jvm.MethodName))) := wd_m (tb_4 (i := 117) rfl) rfl
set_option maxRecDepth 100000 in
theorem wd_990 : am_wok (false, (Jvm.Cond.instanceMethod ({ cls := "OrderMerge", name := "place", desc := "(II)I" } : Jvm.MethodName))) := wd_m (tb_4 (i := 118) rfl) rfl
set_option maxRecDepth 100000 in
theorem wd_991 : am_wok (false, (Jvm.Cond.selects "OrderMerge" ({ cls := "OrderMerge", name := "place", desc := "(II)I" } : Jvm.MethodName) ({ cls := "OrderMerge", name := "place", desc := "(II)I" } : Jvm.MethodName))) := wd_m (tb_4 (i := 119) rfl) rfl
set_option maxRecDepth 100000 in
theorem wd_992 : am_wok (false, (Jvm.Cond.code ({ cls := "OrderMerge", name := "place", desc := "(II)I" } : Jvm.MethodName) prog_1_method_10_code (3 : Nat) (Option.some Jvm.ClassFile.FieldType.int))) := wd_m (tb_4 (i := 120) rfl) rfl
set_option maxRecDepth 100000 in
theorem wd_993 : am_wok (false, (Jvm.Cond.methodLink "OrderMerge" (169 : Nat) ({ cls := "OrderMerge$Orders", name := "placeOf", desc := "(II)I" } : Jvm.MethodName))) := wd_m (tb_4 (i := 121) rfl) rfl
set_option maxRecDepth 100000 in
theorem wd_994 : am_wok (false, (Jvm.Cond.instanceMethod ({ cls := "OrderMerge$Orders", name := "placeOf", desc := "(II)I" } : Jvm.MethodName))) := wd_m (tb_4 (i := 122) rfl) rfl
set_option maxRecDepth 100000 in
theorem wd_995 : am_wok (false, (Jvm.Cond.selects "OrderMerge$Orders" ({ cls := "OrderMerge$Orders", name := "placeOf", desc := "(II)I" } : Jvm.MethodName) ({ cls := "OrderMerge$Orders", name := "placeOf", desc := "(II)I" } : Jvm.MethodName))) := wd_m (tb_4 (i := 123) rfl) rfl
set_option maxRecDepth 100000 in
theorem wd_996 : am_wok (false, (Jvm.Cond.code ({ cls := "OrderMerge$Orders", name := "placeOf", desc := "(II)I" } : Jvm.MethodName) prog_8_method_6_code (4 : Nat) (Option.some Jvm.ClassFile.FieldType.int))) := wd_m (tb_4 (i := 124) rfl) rfl
set_option maxRecDepth 100000 in
theorem wd_997 : am_wok (false, (Jvm.Cond.methodLink "OrderMergeLaw" (48 : Nat) ({ cls := "OrderMerge", name := "above", desc := "(I)I" } : Jvm.MethodName))) := wd_m (tb_4 (i := 125) rfl) rfl
set_option maxRecDepth 100000 in
theorem wd_998 : am_wok (false, (Jvm.Cond.instanceMethod ({ cls := "OrderMerge", name := "above", desc := "(I)I" } : Jvm.MethodName))) := wd_m (tb_4 (i := 126) rfl) rfl
set_option maxRecDepth 100000 in
theorem wd_999 : am_wok (false, (Jvm.Cond.selects "OrderMerge" ({ cls := "OrderMerge", name := "above", desc := "(I)I" } : Jvm.MethodName) ({ cls := "OrderMerge", name := "above", desc := "(I)I" } : Jvm.MethodName))) := wd_m (tb_4 (i := 127) rfl) rfl
set_option maxRecDepth 100000 in
theorem wd_1000 : am_wok (false, (Jvm.Cond.code ({ cls := "OrderMerge", name := "above", desc := "(I)I" } : Jvm.MethodName) prog_1_method_11_code (2 : Nat) (Option.some Jvm.ClassFile.FieldType.int))) := wd_m (tb_4 (i := 128) rfl) rfl
set_option maxRecDepth 100000 in
theorem wd_1001 : am_wok (false, (Jvm.Cond.methodLink "OrderMerge" (172 : Nat) ({ cls := "OrderMerge$Facts", name := "ancestors", desc := "(I)I" } : Jvm.MethodName))) := wd_m (tb_4 (i := 129) rfl) rfl
set_option maxRecDepth 100000 in
theorem wd_1002 : am_wok (false, (Jvm.Cond.instanceMethod ({ cls := "OrderMerge$Facts", name := "ancestors", desc := "(I)I" } : Jvm.MethodName))) := wd_m (tb_4 (i := 130) rfl) rfl
set_option maxRecDepth 100000 in
theorem wd_1003 : am_wok (false, (Jvm.Cond.selects "OrderMerge$Facts" ({ cls := "OrderMerge$Facts", name := "ancestors", desc := "(I)I" } : Jvm.MethodName) ({ cls := "OrderMerge$Facts", name := "ancestors", desc := "(I)I" } : Jvm.MethodName))) := wd_m (tb_4 (i := 131) rfl) rfl
set_option maxRecDepth 100000 in
theorem wd_1004 : am_wok (false, (Jvm.Cond.code ({ cls := "OrderMerge$Facts", name := "ancestors", desc := "(I)I" } : Jvm.MethodName) prog_3_method_12_code (5 : Nat) (Option.some Jvm.ClassFile.FieldType.int))) := wd_m (tb_4 (i := 132) rfl) rfl
set_option maxRecDepth 100000 in
theorem wd_1005 : am_wok (false, (Jvm.Cond.methodLink "OrderMergeLaw" (52 : Nat) ({ cls := "OrderMerge", name := "below", desc := "(I)I" } : Jvm.MethodName))) := wd_m (tb_4 (i := 133) rfl) rfl
set_option maxRecDepth 100000 in
theorem wd_1006 : am_wok (false, (Jvm.Cond.instanceMethod ({ cls := "OrderMerge", name := "below", desc := "(I)I" } : Jvm.MethodName))) := wd_m (tb_4 (i := 134) rfl) rfl
set_option maxRecDepth 100000 in
theorem wd_1007 : am_wok (false, (Jvm.Cond.selects "OrderMerge" ({ cls := "OrderMerge", name := "below", desc := "(I)I" } : Jvm.MethodName) ({ cls := "OrderMerge", name := "below", desc := "(I)I" } : Jvm.MethodName))) := wd_m (tb_4 (i := 135) rfl) rfl
set_option maxRecDepth 100000 in
theorem wd_1008 : am_wok (false, (Jvm.Cond.code ({ cls := "OrderMerge", name := "below", desc := "(I)I" } : Jvm.MethodName) prog_1_method_12_code (4 : Nat) (Option.some Jvm.ClassFile.FieldType.int))) := wd_m (tb_4 (i := 136) rfl) rfl
set_option maxRecDepth 100000 in
theorem wd_1009 : am_wok (false, (Jvm.Cond.methodLink "OrderMergeLaw" (56 : Nat) ({ cls := "OrderMerge", name := "give", desc := "(II)I" } : Jvm.MethodName))) := wd_m (tb_4 (i := 137) rfl) rfl
set_option maxRecDepth 100000 in
theorem wd_1010 : am_wok (false, (Jvm.Cond.instanceMethod ({ cls := "OrderMerge", name := "give", desc := "(II)I" } : Jvm.MethodName))) := wd_m (tb_4 (i := 138) rfl) rfl
set_option maxRecDepth 100000 in
theorem wd_1011 : am_wok (false, (Jvm.Cond.selects "OrderMerge" ({ cls := "OrderMerge", name := "give", desc := "(II)I" } : Jvm.MethodName) ({ cls := "OrderMerge", name := "give", desc := "(II)I" } : Jvm.MethodName))) := wd_m (tb_4 (i := 139) rfl) rfl
set_option maxRecDepth 100000 in
theorem wd_1012 : am_wok (false, (Jvm.Cond.code ({ cls := "OrderMerge", name := "give", desc := "(II)I" } : Jvm.MethodName) prog_1_method_15_code (3 : Nat) (Option.some Jvm.ClassFile.FieldType.int))) := wd_m (tb_4 (i := 140) rfl) rfl
set_option maxRecDepth 100000 in
theorem wd_1013 : am_wok (false, (Jvm.Cond.methodLink "OrderMerge" (188 : Nat) ({ cls := "OrderMerge$Facts", name := "copyFrom", desc := "(LOrderMerge$Facts;)V" } : Jvm.MethodName))) := wd_m (tb_4 (i := 141) rfl) rfl
set_option maxRecDepth 100000 in
theorem wd_1014 : am_wok (false, (Jvm.Cond.methodLink "OrderMerge" (191 : Nat) ({ cls := "OrderMerge$Facts", name := "addParent", desc := "(II)I" } : Jvm.MethodName))) := wd_m (tb_4 (i := 142) rfl) rfl
set_option maxRecDepth 100000 in
theorem wd_1015 : am_wok (false, (Jvm.Cond.instanceMethod ({ cls := "OrderMerge$Facts", name := "addParent", desc := "(II)I" } : Jvm.MethodName))) := wd_m (tb_4 (i := 143) rfl) rfl
set_option maxRecDepth 100000 in
theorem wd_1016 : am_wok (false, (Jvm.Cond.selects "OrderMerge$Facts" ({ cls := "OrderMerge$Facts", name := "addParent", desc := "(II)I" } : Jvm.MethodName) ({ cls := "OrderMerge$Facts", name := "addParent", desc := "(II)I" } : Jvm.MethodName))) := wd_m (tb_4 (i := 144) rfl) rfl
set_option maxRecDepth 100000 in
theorem wd_1017 : am_wok (false, (Jvm.Cond.code ({ cls := "OrderMerge$Facts", name := "addParent", desc := "(II)I" } : Jvm.MethodName) prog_3_method_14_code (3 : Nat) (Option.some Jvm.ClassFile.FieldType.int))) := wd_m (tb_4 (i := 145) rfl) rfl
set_option maxRecDepth 100000 in
theorem wd_1018 : am_wok (false, (Jvm.Cond.methodLink "OrderMerge$Facts" (55 : Nat) ({ cls := "OrderMerge$Facts", name := "parentPlace", desc := "(II)I" } : Jvm.MethodName))) := wd_m (tb_4 (i := 146) rfl) rfl
set_option maxRecDepth 100000 in
theorem wd_1019 : am_wok (false, (Jvm.Cond.methodLink "OrderMerge$Facts" (58 : Nat) ({ cls := "OrderMerge$Facts", name := "appendParent", desc := "(II)V" } : Jvm.MethodName))) := wd_m (tb_4 (i := 147) rfl) rfl
set_option maxRecDepth 100000 in
theorem wd_1020 : am_wok (false, (Jvm.Cond.methodLink "OrderMerge" (194 : Nat) ({ cls := "OrderMerge", name := "keptState", desc := "(II)I" } : Jvm.MethodName))) := wd_m (tb_4 (i := 148) rfl) rfl
set_option maxRecDepth 100000 in
theorem wd_1022 : am_wok (false, (Jvm.Cond.instanceMethod ({ cls := "OrderMerge", name := "keptState", desc := "(II)I" } : Jvm.MethodName))) := wd_m (tb_4 (i := 150) rfl) rfl
set_option maxRecDepth 100000 in
theorem wd_1023 : am_wok (false, (Jvm.Cond.code ({ cls := "OrderMerge", name := "keptState", desc := "(II)I" } : Jvm.MethodName) prog_1_method_18_code (3 : Nat) (Option.some Jvm.ClassFile.FieldType.int))) := wd_m (tb_4 (i := 151) rfl) rfl
set_option maxRecDepth 100000 in
theorem wd_1024 : am_wok (false, (Jvm.Cond.methodLink "OrderMerge" (203 : Nat) ({ cls := "OrderMerge", name := "keepTrial", desc := "()V" } : Jvm.MethodName))) := wd_m (tb_4 (i := 152) rfl) rfl
set_option maxRecDepth 100000 in
theorem wd_1026 : am_wok (false, (Jvm.Cond.instanceMethod ({ cls := "OrderMerge", name := "keepTrial", desc := "()V" } : Jvm.MethodName))) := wd_m (tb_4 (i := 154) rfl) rfl
set_option maxRecDepth 100000 in
theorem wd_1027 : am_wok (false, (Jvm.Cond.code ({ cls := "OrderMerge", name := "keepTrial", desc := "()V" } : Jvm.MethodName) prog_1_method_28_code (1 : Nat) (Option.none : Option Jvm.ClassFile.FieldType))) := wd_m (tb_4 (i := 155) rfl) rfl
set_option maxRecDepth 100000 in
theorem wd_1028 : am_wok (false, (Jvm.Cond.methodLink "OrderMerge" (259 : Nat) ({ cls := "OrderMerge$Past", name := "push", desc := "(LOrderMerge$Facts;)V" } : Jvm.MethodName))) := wd_m (tb_4 (i := 156) rfl) rfl
set_option maxRecDepth 100000 in
theorem wd_1029 : am_wok (false, (Jvm.Cond.instanceMethod ({ cls := "OrderMerge$Past", name := "push", desc := "(LOrderMerge$Facts;)V" } : Jvm.MethodName))) := wd_m (tb_4 (i := 157) rfl) rfl
set_option maxRecDepth 100000 in
theorem wd_1030 : am_wok (false, (Jvm.Cond.selects "OrderMerge$Past" ({ cls := "OrderMerge$Past", name := "push", desc := "(LOrderMerge$Facts;)V" } : Jvm.MethodName) ({ cls := "OrderMerge$Past", name := "push", desc := "(LOrderMerge$Facts;)V" } : Jvm.MethodName))) := wd_m (tb_4 (i := 158) rfl) rfl
set_option maxRecDepth 100000 in
theorem wd_1031 : am_wok (false, (Jvm.Cond.code ({ cls := "OrderMerge$Past", name := "push", desc := "(LOrderMerge$Facts;)V" } : Jvm.MethodName) prog_9_method_3_code (3 : Nat) (Option.none : Option Jvm.ClassFile.FieldType))) := wd_m (tb_4 (i := 159) rfl) rfl
set_option maxRecDepth 100000 in
theorem wd_1032 : am_wok (true, (Jvm.Cond.methodLinkNest "OrderMerge$Past" (24 : Nat) ({ cls := "OrderMerge$Facts", name := "<init>", desc := "()V" } : Jvm.MethodName) "OrderMerge")) := wd_n (tb_4 (i := 160) rfl) rfl
set_option maxRecDepth 100000 in
theorem wd_1033 : am_wok (false, (Jvm.Cond.methodLink "OrderMerge$Past" (25 : Nat) ({ cls := "OrderMerge$Facts", name := "copyFrom", desc := "(LOrderMerge$Facts;)V" } : Jvm.MethodName))) := wd_m (tb_4 (i := 161) rfl) rfl
set_option maxRecDepth 100000 in
theorem wd_1034 : am_wok (false, (Jvm.Cond.methodLink "OrderMergeLaw" (60 : Nat) ({ cls := "OrderMerge", name := "take", desc := "(II)I" } : Jvm.MethodName))) := wd_m (tb_4 (i := 162) rfl) rfl
set_option maxRecDepth 100000 in
theorem wd_1035 : am_wok (false, (Jvm.Cond.instanceMethod ({ cls := "OrderMerge", name := "take", desc := "(II)I" } : Jvm.MethodName))) := wd_m (tb_4 (i := 163) rfl) rfl
set_option maxRecDepth 100000 in
theorem wd_1036 : am_wok (false, (Jvm.Cond.selects "OrderMerge" ({ cls := "OrderMerge", name := "take", desc := "(II)I" } : Jvm.MethodName) ({ cls := "OrderMerge", name := "take", desc := "(II)I" } : Jvm.MethodName))) := wd_m (tb_4 (i := 164) rfl) rfl
set_option maxRecDepth 100000 in
theorem wd_1037 : am_wok (false, (Jvm.Cond.code ({ cls := "OrderMerge", name := "take", desc := "(II)I" } : Jvm.MethodName) prog_1_method_16_code (3 : Nat) (Option.some Jvm.ClassFile.FieldType.int))) := wd_m (tb_4 (i := 165) rfl) rfl
set_option maxRecDepth 100000 in
theorem wd_1038 : am_wok (false, (Jvm.Cond.methodLink "OrderMerge" (197 : Nat) ({ cls := "OrderMerge$Facts", name := "removeParent", desc := "(II)I" } : Jvm.MethodName))) := wd_m (tb_4 (i := 166) rfl) rfl
set_option maxRecDepth 100000 in
theorem wd_1039 : am_wok (false, (Jvm.Cond.instanceMethod ({ cls := "OrderMerge$Facts", name := "removeParent", desc := "(II)I" } : Jvm.MethodName))) := wd_m (tb_4 (i := 167) rfl) rfl
set_option maxRecDepth 100000 in
theorem wd_1040 : am_wok (false, (Jvm.Cond.selects "OrderMerge$Facts" ({ cls := "OrderMerge$Facts", name := "removeParent", desc := "(II)I" } : Jvm.MethodName) ({ cls := "OrderMerge$Facts", name := "removeParent", desc := "(II)I" } : Jvm.MethodName))) := wd_m (tb_4 (i := 168) rfl) rfl
set_option maxRecDepth 100000 in
theorem wd_1041 : am_wok (false, (Jvm.Cond.code ({ cls := "OrderMerge$Facts", name := "removeParent", desc := "(II)I" } : Jvm.MethodName) prog_3_method_15_code (6 : Nat) (Option.some Jvm.ClassFile.FieldType.int))) := wd_m (tb_4 (i := 169) rfl) rfl
set_option maxRecDepth 100000 in
theorem wd_1042 : am_wok (false, (Jvm.Cond.methodLink "OrderMergeLaw" (64 : Nat) ({ cls := "OrderMerge", name := "swap", desc := "(II)I" } : Jvm.MethodName))) := wd_m (tb_4 (i := 170) rfl) rfl
set_option maxRecDepth 100000 in
theorem wd_1043 : am_wok (false, (Jvm.Cond.instanceMethod ({ cls := "OrderMerge", name := "swap", desc := "(II)I" } : Jvm.MethodName))) := wd_m (tb_4 (i := 171) rfl) rfl
set_option maxRecDepth 100000 in
theorem wd_1044 : am_wok (false, (Jvm.Cond.selects "OrderMerge" ({ cls := "OrderMerge", name := "swap", desc := "(II)I" } : Jvm.MethodName) ({ cls := "OrderMerge", name := "swap", desc := "(II)I" } : Jvm.MethodName))) := wd_m (tb_4 (i := 172) rfl) rfl
set_option maxRecDepth 100000 in
theorem wd_1045 : am_wok (false, (Jvm.Cond.code ({ cls := "OrderMerge", name := "swap", desc := "(II)I" } : Jvm.MethodName) prog_1_method_17_code (3 : Nat) (Option.some Jvm.ClassFile.FieldType.int))) := wd_m (tb_4 (i := 173) rfl) rfl
set_option maxRecDepth 100000 in
theorem wd_1046 : am_wok (false, (Jvm.Cond.methodLink "OrderMerge" (200 : Nat) ({ cls := "OrderMerge$Facts", name := "turnParents", desc := "(II)I" } : Jvm.MethodName))) := wd_m (tb_4 (i := 174) rfl) rfl
set_option maxRecDepth 100000 in
theorem wd_1047 : am_wok (false, (Jvm.Cond.instanceMethod ({ cls := "OrderMerge$Facts", name := "turnParents", desc := "(II)I" } : Jvm.MethodName))) := wd_m (tb_4 (i := 175) rfl) rfl
set_option maxRecDepth 100000 in
theorem wd_1048 : am_wok (false, (Jvm.Cond.selects "OrderMerge$Facts" ({ cls := "OrderMerge$Facts", name := "turnParents", desc := "(II)I" } : Jvm.MethodName) ({ cls := "OrderMerge$Facts", name := "turnParents", desc := "(II)I" } : Jvm.MethodName))) := wd_m (tb_4 (i := 176) rfl) rfl
set_option maxRecDepth 100000 in
theorem wd_1049 : am_wok (false, (Jvm.Cond.code ({ cls := "OrderMerge$Facts", name := "turnParents", desc := "(II)I" } : Jvm.MethodName) prog_3_method_16_code (5 : Nat) (Option.some Jvm.ClassFile.FieldType.int))) := wd_m (tb_4 (i := 177) rfl) rfl
set_option maxRecDepth 100000 in
theorem wd_1050 : am_wok (false, (Jvm.Cond.methodLink "OrderMergeLaw" (68 : Nat) ({ cls := "OrderMerge", name := "define", desc := "(III)I" } : Jvm.MethodName))) := wd_m (tb_4 (i := 178) rfl) rfl
set_option maxRecDepth 100000 in
theorem wd_1051 : am_wok (false, (Jvm.Cond.instanceMethod ({ cls := "OrderMerge", name := "define", desc := "(III)I" } : Jvm.MethodName))) := wd_m (tb_4 (i := 179) rfl) rfl
set_option maxRecDepth 100000 in
theorem wd_1052 : am_wok (false, (Jvm.Cond.selects "OrderMerge" ({ cls := "OrderMerge", name := "define", desc := "(III)I" } : Jvm.MethodName) ({ cls := "OrderMerge", name := "define", desc := "(III)I" } : Jvm.MethodName))) := wd_m (tb_4 (i := 180) rfl) rfl
set_option maxRecDepth 100000 in
theorem wd_1053 : am_wok (false, (Jvm.Cond.code ({ cls := "OrderMerge", name := "define", desc := "(III)I" } : Jvm.MethodName) prog_1_method_19_code (6 : Nat) (Option.some Jvm.ClassFile.FieldType.int))) := wd_m (tb_4 (i := 181) rfl) rfl
set_option maxRecDepth 100000 in
theorem wd_1054 : am_wok (false, (Jvm.Cond.methodLink "OrderMerge" (206 : Nat) ({ cls := "OrderMerge$Facts", name := "putDefinition", desc := "(III)I" } : Jvm.MethodName))) := wd_m (tb_4 (i := 182) rfl) rfl
set_option maxRecDepth 100000 in
theorem wd_1055 : am_wok (false, (Jvm.Cond.methodLink "OrderMergeLaw" (73 : Nat) ({ cls := "OrderMerge", name := "mood", desc := "(I)I" } : Jvm.MethodName))) := wd_m (tb_4 (i := 183) rfl) rfl
set_option maxRecDepth 100000 in
theorem wd_1056 : am_wok (false, (Jvm.Cond.instanceMethod ({ cls := "OrderMerge", name := "mood", desc := "(I)I" } : Jvm.MethodName))) := wd_m (tb_4 (i := 184) rfl) rfl
set_option maxRecDepth 100000 in
theorem wd_1057 : am_wok (false, (Jvm.Cond.selects "OrderMerge" ({ cls := "OrderMerge", name := "mood", desc := "(I)I" } : Jvm.MethodName) ({ cls := "OrderMerge", name := "mood", desc := "(I)I" } : Jvm.MethodName))) := wd_m (tb_4 (i := 185) rfl) rfl
set_option maxRecDepth 100000 in
theorem wd_1058 : am_wok (false, (Jvm.Cond.code ({ cls := "OrderMerge", name := "mood", desc := "(I)I" } : Jvm.MethodName) prog_1_method_20_code (4 : Nat) (Option.some Jvm.ClassFile.FieldType.int))) := wd_m (tb_4 (i := 186) rfl) rfl
set_option maxRecDepth 100000 in
theorem wd_1059 : am_wok (false, (Jvm.Cond.methodLink "OrderMerge" (210 : Nat) ({ cls := "OrderMerge$Facts", name := "putMood", desc := "(I)I" } : Jvm.MethodName))) := wd_m (tb_4 (i := 187) rfl) rfl
set_option maxRecDepth 100000 in
theorem wd_1060 : am_wok (false, (Jvm.Cond.instanceMethod ({ cls := "OrderMerge$Facts", name := "putMood", desc := "(I)I" } : Jvm.MethodName))) := wd_m (tb_4 (i := 188) rfl) rfl
set_option maxRecDepth 100000 in
theorem wd_1061 : am_wok (false, (Jvm.Cond.selects "OrderMerge$Facts" ({ cls := "OrderMerge$Facts", name := "putMood", desc := "(I)I" } : Jvm.MethodName) ({ cls := "OrderMerge$Facts", name := "putMood", desc := "(I)I" } : Jvm.MethodName))) := wd_m (tb_4 (i := 189) rfl) rfl
set_option maxRecDepth 100000 in
theorem wd_1062 : am_wok (false, (Jvm.Cond.code ({ cls := "OrderMerge$Facts", name := "putMood", desc := "(I)I" } : Jvm.MethodName) prog_3_method_18_code (2 : Nat) (Option.some Jvm.ClassFile.FieldType.int))) := wd_m (tb_4 (i := 190) rfl) rfl
set_option maxRecDepth 100000 in
theorem wd_1063 : am_wok (false, (Jvm.Cond.methodLink "OrderMergeLaw" (77 : Nat) ({ cls := "OrderMerge", name := "undo", desc := "(I)I" } : Jvm.MethodName))) := wd_m (tb_4 (i := 191) rfl) rfl
set_option maxRecDepth 100000 in
theorem wd_1064 : am_wok (false, (Jvm.Cond.instanceMethod ({ cls := "OrderMerge", name := "undo", desc := "(I)I" } : Jvm.MethodName))) := wd_m (tb_4 (i := 192) rfl) rfl
set_option maxRecDepth 100000 in
theorem wd_1065 : am_wok (false, (Jvm.Cond.selects "OrderMerge" ({ cls := "OrderMerge", name := "undo", desc := "(I)I" } : Jvm.MethodName) ({ cls := "OrderMerge", name := "undo", desc := "(I)I" } : Jvm.MethodName))) := wd_m (tb_4 (i := 193) rfl) rfl
set_option maxRecDepth 100000 in
theorem wd_1066 : am_wok (false, (Jvm.Cond.code ({ cls := "OrderMerge", name := "undo", desc := "(I)I" } : Jvm.MethodName) prog_1_method_21_code (2 : Nat) (Option.some Jvm.ClassFile.FieldType.int))) := wd_m (tb_4 (i := 194) rfl) rfl
set_option maxRecDepth 100000 in
theorem wd_1067 : am_wok (false, (Jvm.Cond.methodLink "OrderMerge" (219 : Nat) ({ cls := "OrderMerge$Past", name := "goBack", desc := "(ILOrderMerge$Facts;)V" } : Jvm.MethodName))) := wd_m (tb_4 (i := 195) rfl) rfl
set_option maxRecDepth 100000 in
theorem wd_1068 : am_wok (false, (Jvm.Cond.instanceMethod ({ cls := "OrderMerge$Past", name := "goBack", desc := "(ILOrderMerge$Facts;)V" } : Jvm.MethodName))) := wd_m (tb_4 (i := 196) rfl) rfl
set_option maxRecDepth 100000 in
theorem wd_1069 : am_wok (false, (Jvm.Cond.selects "OrderMerge$Past" ({ cls := "OrderMerge$Past", name := "goBack", desc := "(ILOrderMerge$Facts;)V" } : Jvm.MethodName) ({ cls := "OrderMerge$Past", name := "goBack", desc := "(ILOrderMerge$Facts;)V" } : Jvm.MethodName))) := wd_m (tb_4 (i := 197) rfl) rfl
set_option maxRecDepth 100000 in
theorem wd_1070 : am_wok (false, (Jvm.Cond.code ({ cls := "OrderMerge$Past", name := "goBack", desc := "(ILOrderMerge$Facts;)V" } : Jvm.MethodName) prog_9_method_4_code (4 : Nat) (Option.none : Option Jvm.ClassFile.FieldType))) := wd_m (tb_4 (i := 198) rfl) rfl
set_option maxRecDepth 100000 in
theorem wd_1071 : am_wok (false, (Jvm.Cond.methodLink "OrderMergeLaw" (81 : Nat) ({ cls := "OrderMerge", name := "judge", desc := "(II)I" } : Jvm.MethodName))) := wd_m (tb_4 (i := 199) rfl) rfl
set_option maxRecDepth 100000 in
theorem wd_1072 : am_wok (false, (Jvm.Cond.instanceMethod ({ cls := "OrderMerge", name := "judge", desc := "(II)I" } : Jvm.MethodName))) := wd_m (tb_4 (i := 200) rfl) rfl
set_option maxRecDepth 100000 in
theorem wd_1073 : am_wok (false, (Jvm.Cond.selects "OrderMerge" ({ cls := "OrderMerge", name := "judge", desc := "(II)I" } : Jvm.MethodName) ({ cls := "OrderMerge", name := "judge", desc := "(II)I" } : Jvm.MethodName))) := wd_m (tb_4 (i := 201) rfl) rfl
set_option maxRecDepth 100000 in
theorem wd_1074 : am_wok (false, (Jvm.Cond.code ({ cls := "OrderMerge", name := "judge", desc := "(II)I" } : Jvm.MethodName) prog_1_method_22_code (6 : Nat) (Option.some Jvm.ClassFile.FieldType.int))) := wd_m (tb_4 (i := 202) rfl) rfl
set_option maxRecDepth 100000 in
theorem wd_1075 : am_wok (false, (Jvm.Cond.methodLink "OrderMerge" (223 : Nat) ({ cls := "OrderMerge", name := "isTray", desc := "(I)Z" } : Jvm.MethodName))) := wd_m (tb_4 (i := 203) rfl) rfl
set_option maxRecDepth 100000 in
theorem wd_1076 : am_wok (false, (Jvm.Cond.static ({ cls := "OrderMerge", name := "isTray", desc := "(I)Z" } : Jvm.MethodName))) := wd_m (tb_4 (i := 204) rfl) rfl
set_option maxRecDepth 100000 in
theorem wd_1077 : am_wok (false, (Jvm.Cond.code ({ cls := "OrderMerge", name := "isTray", desc := "(I)Z" } : Jvm.MethodName) prog_1_method_68_code (1 : Nat) (Option.some Jvm.ClassFile.FieldType.boolean))) := wd_m (tb_4 (i := 205) rfl) rfl
set_option maxRecDepth 100000 in
theorem wd_1078 : am_wok (false, (Jvm.Cond.methodLink "OrderMerge" (226 : Nat) ({ cls := "OrderMerge$Tray", name := "isMissing", desc := "()Z" } : Jvm.MethodName))) := wd_m (tb_4 (i := 206) rfl) rfl
set_option maxRecDepth 100000 in
theorem wd_1079 : am_wok (false, (Jvm.Cond.instanceMethod ({ cls := "OrderMerge$Tray", name := "isMissing", desc := "()Z" } : Jvm.MethodName))) := wd_m (tb_4 (i := 207) rfl) rfl
set_option maxRecDepth 100000 in
theorem wd_1080 : am_wok (false, (Jvm.Cond.selects "OrderMerge$Tray" ({ cls := "OrderMerge$Tray", name := "isMissing", desc := "()Z" } : Jvm.MethodName) ({ cls := "OrderMerge$Tray", name := "isMissing", desc := "()Z" } : Jvm.MethodName))) := wd_m (tb_4 (i := 208) rfl) rfl
set_option maxRecDepth 100000 in
theorem wd_1081 : am_wok (false, (Jvm.Cond.code ({ cls := "OrderMerge$Tray", name := "isMissing", desc := "()Z" } : Jvm.MethodName) prog_11_method_2_code (1 : Nat) (Option.some Jvm.ClassFile.FieldType.boolean))) := wd_m (tb_4 (i := 209) rfl) rfl
set_option maxRecDepth 100000 in
theorem wd_1082 : am_wok (false, (Jvm.Cond.methodLink "OrderMerge" (230 : Nat) ({ cls := "OrderMerge", name := "tryDeeds", desc := "(LOrderMerge$Tray;)I" } : Jvm.MethodName))) := wd_m (tb_4 (i := 210) rfl) rfl
set_option maxRecDepth 100000 in
theorem wd_1084 : am_wok (false, (Jvm.Cond.instanceMethod ({ cls := "OrderMerge", name := "tryDeeds", desc := "(LOrderMerge$Tray;)I" } : Jvm.MethodName))) := wd_m (tb_4 (i := 212) rfl) rfl
set_option maxRecDepth 100000 in
theorem wd_1085 : am_wok (false, (Jvm.Cond.code ({ cls := "OrderMerge", name := "tryDeeds", desc := "(LOrderMerge$Tray;)I" } : Jvm.MethodName) prog_1_method_27_code (3 : Nat) (Option.some Jvm.ClassFile.FieldType.int))) := wd_m (tb_4 (i := 213) rfl) rfl
set_option maxRecDepth 100000 in
theorem wd_1086 : am_wok (false, (Jvm.Cond.methodLink "OrderMerge" (235 : Nat) ({ cls := "OrderMerge$Tray", name := "at", desc := "(I)J" } : Jvm.MethodName))) := wd_m (tb_4 (i := 214) rfl) rfl
set_option maxRecDepth 100000 in
theorem wd_1087 : am_wok (false, (Jvm.Cond.instanceMethod ({ cls := "OrderMerge$Tray", name := "at", desc := "(I)J" } : Jvm.MethodName))) := wd_m (tb_4 (i := 215) rfl) rfl
set_option maxRecDepth 100000 in
theorem wd_1088 : am_wok (false, (Jvm.Cond.selects "OrderMerge$Tray" ({ cls := "OrderMerge$Tray", name := "at", desc := "(I)J" } : Jvm.MethodName) ({ cls := "OrderMerge$Tray", name := "at", desc := "(I)J" } : Jvm.MethodName))) := wd_m (tb_4 (i := 216) rfl) rfl
set_option maxRecDepth 100000 in
theorem wd_1089 : am_wok (false, (Jvm.Cond.code ({ cls := "OrderMerge$Tray", name := "at", desc := "(I)J" } : Jvm.MethodName) prog_11_method_4_code (2 : Nat) (Option.some Jvm.ClassFile.FieldType.long))) := wd_m (tb_4 (i := 217) rfl) rfl
set_option maxRecDepth 100000 in
theorem wd_1090 : am_wok (false, (Jvm.Cond.methodLink "OrderMerge" (238 : Nat) ({ cls := "OrderMerge$Facts", name := "doDeed", desc := "(J)I" } : Jvm.MethodName))) := wd_m (tb_4 (i := 218) rfl) rfl
set_option maxRecDepth 100000 in
theorem wd_1091 : am_wok (false, (Jvm.Cond.instanceMethod ({ cls := "OrderMerge$Facts", name := "doDeed", desc := "(J)I" } : Jvm.MethodName))) := wd_m (tb_4 (i := 219) rfl) rfl
set_option maxRecDepth 100000 in
theorem wd_1092 : am_wok (false, (Jvm.Cond.selects "OrderMerge$Facts" ({ cls := "OrderMerge$Facts", name := "doDeed", desc := "(J)I" } : Jvm.MethodName) ({ cls := "OrderMerge$Facts", name := "doDeed", desc := "(J)I" } : Jvm.MethodName))) := wd_m (tb_4 (i := 220) rfl) rfl
set_option maxRecDepth 100000 in
theorem wd_1093 : am_wok (false, (Jvm.Cond.code ({ cls := "OrderMerge$Facts", name := "doDeed", desc := "(J)I" } : Jvm.MethodName) prog_3_method_19_code (5 : Nat) (Option.some Jvm.ClassFile.FieldType.int))) := wd_m (tb_4 (i := 221) rfl) rfl
set_option maxRecDepth 100000 in
theorem wd_1094 : am_wok (false, (Jvm.Cond.constantLong "OrderMerge$Facts" (62 : Nat) (10 : Int64))) := wd_m (tb_4 (i := 222) rfl) rfl
set_option maxRecDepth 100000 in
theorem wd_1095 : am_wok (false, (Jvm.Cond.constantLong "OrderMerge$Facts" (64 : Nat) (1299 : Int64))) := wd_m (tb_4 (i := 223) rfl) rfl
set_option maxRecDepth 100000 in
theorem wd_1096 : am_wok (false, (Jvm.Cond.methodLink "OrderMerge$Facts" (66 : Nat) ({ cls := "OrderMerge$Facts", name := "putMood", desc := "(I)I" } : Jvm.MethodName))) := wd_m (tb_4 (i := 224) rfl) rfl
set_option maxRecDepth 100000 in
theorem wd_1097 : am_wok (false, (Jvm.Cond.methodLink "OrderMerge$Facts" (69 : Nat) ({ cls := "OrderMerge$Facts", name := "addParent", desc := "(II)I" } : Jvm.MethodName))) := wd_m (tb_4 (i := 225) rfl) rfl
set_option maxRecDepth 100000 in
theorem wd_1098 : am_wok (false, (Jvm.Cond.methodLink "OrderMerge$Facts" (72 : Nat) ({ cls := "OrderMerge$Facts", name := "removeParent", desc := "(II)I" } : Jvm.MethodName))) := wd_m (tb_4 (i := 226) rfl) rfl
set_option maxRecDepth 100000 in
theorem wd_1099 : am_wok (false, (Jvm.Cond.methodLink "OrderMerge$Facts" (75 : Nat) ({ cls := "OrderMerge$Facts", name := "turnParents", desc := "(II)I" } : Jvm.MethodName))) := wd_m (tb_4 (i := 227) rfl) rfl
set_option maxRecDepth 100000 in
theorem wd_1100 : am_wok (false, (Jvm.Cond.methodLink "OrderMerge$Facts" (78 : Nat) ({ cls := "OrderMerge$Facts", name := "putDefinition", desc := "(III)I" } : Jvm.MethodName))) := wd_m (tb_4 (i := 228) rfl) rfl
set_option maxRecDepth 100000 in
theorem wd_1101 : am_wok (false, (Jvm.Cond.methodLink "OrderMerge" (242 : Nat) ({ cls := "OrderMerge$Orders", name := "bitsOf", desc := "(II)I" } : Jvm.MethodName))) := wd_m (tb_4 (i := 229) rfl) rfl
set_option maxRecDepth 100000 in
theorem wd_1102 : am_wok (false, (Jvm.Cond.instanceMethod ({ cls := "OrderMerge$Orders", name := "bitsOf", desc := "(II)I" } : Jvm.MethodName))) := wd_m (tb_4 (i := 230) rfl) rfl
set_option maxRecDepth 100000 in
theorem wd_1103 : am_wok (false, (Jvm.Cond.selects "OrderMerge$Orders" ({ cls := "OrderMerge$Orders", name := "bitsOf", desc := "(II)I" } : Jvm.MethodName) ({ cls := "OrderMerge$Orders", name := "bitsOf", desc := "(II)I" } : Jvm.MethodName))) := wd_m (tb_4 (i := 231) rfl) rfl
set_option maxRecDepth 100000 in
theorem wd_1104 : am_wok (false, (Jvm.Cond.code ({ cls := "OrderMerge$Orders", name := "bitsOf", desc := "(II)I" } : Jvm.MethodName) prog_8_method_7_code (5 : Nat) (Option.some Jvm.ClassFile.FieldType.int))) := wd_m (tb_4 (i := 232) rfl) rfl
set_option maxRecDepth 100000 in
theorem wd_1105 : am_wok (false, (Jvm.Cond.methodLink "OrderMerge" (245 : Nat) ({ cls := "OrderMerge$Facts", name := "links", desc := "()I" } : Jvm.MethodName))) := wd_m (tb_4 (i := 233) rfl) rfl
set_option maxRecDepth 100000 in
theorem wd_1106 : am_wok (false, (Jvm.Cond.instanceMethod ({ cls := "OrderMerge$Facts", name := "links", desc := "()I" } : Jvm.MethodName))) := wd_m (tb_4 (i := 234) rfl) rfl
set_option maxRecDepth 100000 in
theorem wd_1107 : am_wok (false, (Jvm.Cond.selects "OrderMerge$Facts" ({ cls := "OrderMerge$Facts", name := "links", desc := "()I" } : Jvm.MethodName) ({ cls := "OrderMerge$Facts", name := "links", desc := "()I" } : Jvm.MethodName))) := wd_m (tb_4 (i := 235) rfl) rfl
set_option maxRecDepth 100000 in
theorem wd_1108 : am_wok (false, (Jvm.Cond.code ({ cls := "OrderMerge$Facts", name := "links", desc := "()I" } : Jvm.MethodName) prog_3_method_10_code (3 : Nat) (Option.some Jvm.ClassFile.FieldType.int))) := wd_m (tb_4 (i := 236) rfl) rfl
set_option maxRecDepth 100000 in
theorem wd_1109 : am_wok (false, (Jvm.Cond.methodLink "OrderMergeLaw" (85 : Nat) ({ cls := "OrderMerge", name := "perform", desc := "(I)I" } : Jvm.MethodName))) := wd_m (tb_4 (i := 237) rfl) rfl
set_option maxRecDepth 100000 in
theorem wd_1110 : am_wok (false, (Jvm.Cond.instanceMethod ({ cls := "OrderMerge", name := "perform", desc := "(I)I" } : Jvm.MethodName))) := wd_m (tb_4 (i := 238) rfl) rfl
set_option maxRecDepth 100000 in
theorem wd_1111 : am_wok (false, (Jvm.Cond.selects "OrderMerge" ({ cls := "OrderMerge", name := "perform", desc := "(I)I" } : Jvm.MethodName) ({ cls := "OrderMerge", name := "perform", desc := "(I)I" } : Jvm.MethodName))) := wd_m (tb_4 (i := 239) rfl) rfl
set_option maxRecDepth 100000 in
theorem wd_1112 : am_wok (false, (Jvm.Cond.code ({ cls := "OrderMerge", name := "perform", desc := "(I)I" } : Jvm.MethodName) prog_1_method_23_code (4 : Nat) (Option.some Jvm.ClassFile.FieldType.int))) := wd_m (tb_5 (i := 0) rfl) rfl
set_option maxRecDepth 100000 in
theorem wd_1113 : am_wok (false, (Jvm.Cond.methodLink "OrderMerge" (249 : Nat) ({ cls := "OrderMerge", name := "trayCode", desc := "(I)I" } : Jvm.MethodName))) := wd_m (tb_5 (i := 1) rfl) rfl
set_option maxRecDepth 100000 in
theorem wd_1115 : am_wok (false, (Jvm.Cond.instanceMethod ({ cls := "OrderMerge", name := "trayCode", desc := "(I)I" } : Jvm.MethodName))) := wd_m (tb_5 (i := 3) rfl) rfl
set_option maxRecDepth 100000 in
theorem wd_1116 : am_wok (false, (Jvm.Cond.code ({ cls := "OrderMerge", name := "trayCode", desc := "(I)I" } : Jvm.MethodName) prog_1_method_69_code (2 : Nat) (Option.some Jvm.ClassFile.FieldType.int))) := wd_m (tb_5 (i := 4) rfl) rfl
set_option maxRecDepth 100000 in
theorem wd_1117 : am_wok (false, (Jvm.Cond.methodLink "OrderMergeLaw" (89 : Nat) ({ cls := "OrderMerge", name := "day", desc := "(II)I" } : Jvm.MethodName))) := wd_m (tb_5 (i := 5) rfl) rfl
set_option maxRecDepth 100000 in
theorem wd_1118 : am_wok (false, (Jvm.Cond.instanceMethod ({ cls := "OrderMerge", name := "day", desc := "(II)I" } : Jvm.MethodName))) := wd_m (tb_5 (i := 6) rfl) rfl
set_option maxRecDepth 100000 in
theorem wd_1119 : am_wok (false, (Jvm.Cond.selects "OrderMerge" ({ cls := "OrderMerge", name := "day", desc := "(II)I" } : Jvm.MethodName) ({ cls := "OrderMerge", name := "day", desc := "(II)I" } : Jvm.MethodName))) := wd_m (tb_5 (i := 7) rfl) rfl
set_option maxRecDepth 100000 in
theorem wd_1120 : am_wok (false, (Jvm.Cond.code ({ cls := "OrderMerge", name := "day", desc := "(II)I" } : Jvm.MethodName) prog_1_method_24_code (7 : Nat) (Option.some Jvm.ClassFile.FieldType.int))) := wd_m (tb_5 (i := 8) rfl) rfl
set_option maxRecDepth 100000 in
theorem wd_1121 : am_wok (false, (Jvm.Cond.methodLink "OrderMerge" (252 : Nat) ({ cls := "OrderMerge", name := "nextDraw", desc := "(I)I" } : Jvm.MethodName))) := wd_m (tb_5 (i := 9) rfl) rfl
set_option maxRecDepth 100000 in
theorem wd_1122 : am_wok (false, (Jvm.Cond.static ({ cls := "OrderMerge", name := "nextDraw", desc := "(I)I" } : Jvm.MethodName))) := wd_m (tb_5 (i := 10) rfl) rfl
set_option maxRecDepth 100000 in
theorem wd_1123 : am_wok (false, (Jvm.Cond.code ({ cls := "OrderMerge", name := "nextDraw", desc := "(I)I" } : Jvm.MethodName) prog_1_method_25_code (1 : Nat) (Option.some Jvm.ClassFile.FieldType.int))) := wd_m (tb_5 (i := 11) rfl) rfl
set_option maxRecDepth 100000 in
theorem wd_1124 : am_wok (false, (Jvm.Cond.constant "OrderMerge" (258 : Nat) (1103515245 : Int32))) := wd_m (tb_5 (i := 12) rfl) rfl
set_option maxRecDepth 100000 in
theorem wd_1125 : am_wok (false, (Jvm.Cond.methodLink "OrderMerge" (255 : Nat) ({ cls := "OrderMerge", name := "drawnDeed", desc := "(II)I" } : Jvm.MethodName))) := wd_m (tb_5 (i := 13) rfl) rfl
set_option maxRecDepth 100000 in
theorem wd_1126 : am_wok (false, (Jvm.Cond.static ({ cls := "OrderMerge", name := "drawnDeed", desc := "(II)I" } : Jvm.MethodName))) := wd_m (tb_5 (i := 14) rfl) rfl
set_option maxRecDepth 100000 in
theorem wd_1127 : am_wok (false, (Jvm.Cond.code ({ cls := "OrderMerge", name := "drawnDeed", desc := "(II)I" } : Jvm.MethodName) prog_1_method_26_code (2 : Nat) (Option.some Jvm.ClassFile.FieldType.int))) := wd_m (tb_5 (i := 15) rfl) rfl
set_option maxRecDepth 100000 in
theorem wd_1128 : am_wok (false, (Jvm.Cond.methodLink "OrderMergeLaw" (93 : Nat) ({ cls := "OrderMerge", name := "demands", desc := "(I)I" } : Jvm.MethodName))) := wd_m (tb_5 (i := 16) rfl) rfl
set_option maxRecDepth 100000 in
theorem wd_1129 : am_wok (false, (Jvm.Cond.instanceMethod ({ cls := "OrderMerge", name := "demands", desc := "(I)I" } : Jvm.MethodName))) := wd_m (tb_5 (i := 17) rfl) rfl
set_option maxRecDepth 100000 in
theorem wd_1130 : am_wok (false, (Jvm.Cond.selects "OrderMerge" ({ cls := "OrderMerge", name := "demands", desc := "(I)I" } : Jvm.MethodName) ({ cls := "OrderMerge", name := "demands", desc := "(I)I" } : Jvm.MethodName))) := wd_m (tb_5 (i := 18) rfl) rfl
set_option maxRecDepth 100000 in
theorem wd_1131 : am_wok (false, (Jvm.Cond.code ({ cls := "OrderMerge", name := "demands", desc := "(I)I" } : Jvm.MethodName) prog_1_method_29_code (3 : Nat) (Option.some Jvm.ClassFile.FieldType.int))) := wd_m (tb_5 (i := 19) rfl) rfl
set_option maxRecDepth 100000 in
theorem wd_1132 : am_wok (false, (Jvm.Cond.methodLink "OrderMerge" (262 : Nat) ({ cls := "OrderMerge", name := "demandsCode", desc := "(I)I" } : Jvm.MethodName))) := wd_m (tb_5 (i := 20) rfl) rfl
set_option maxRecDepth 100000 in
theorem wd_1134 : am_wok (false, (Jvm.Cond.instanceMethod ({ cls := "OrderMerge", name := "demandsCode", desc := "(I)I" } : Jvm.MethodName))) := wd_m (tb_5 (i := 22) rfl) rfl
set_option maxRecDepth 100000 in
theorem wd_1135 : am_wok (false, (Jvm.Cond.code ({ cls := "OrderMerge", name := "demandsCode", desc := "(I)I" } : Jvm.MethodName) prog_1_method_34_code (2 : Nat) (Option.some Jvm.ClassFile.FieldType.int))) := wd_m (tb_5 (i := 23) rfl) rfl
set_option maxRecDepth 100000 in
theorem wd_1136 : am_wok (false, (Jvm.Cond.methodLink "OrderMerge" (265 : Nat) ({ cls := "OrderMerge$Demands", name := "gather", desc := "(I)V" } : Jvm.MethodName))) := wd_m (tb_5 (i := 24) rfl) rfl
set_option maxRecDepth 100000 in
theorem wd_1137 : am_wok (false, (Jvm.Cond.instanceMethod ({ cls := "OrderMerge$Demands", name := "gather", desc := "(I)V" } : Jvm.MethodName))) := wd_m (tb_5 (i := 25) rfl) rfl
set_option maxRecDepth 100000 in
theorem wd_1138 : am_wok (false, (Jvm.Cond.selects "OrderMerge$Demands" ({ cls := "OrderMerge$Demands", name := "gather", desc := "(I)V" } : Jvm.MethodName) ({ cls := "OrderMerge$Demands", name := "gather", desc := "(I)V" } : Jvm.MethodName))) := wd_m (tb_5 (i := 26) rfl) rfl
set_option maxRecDepth 100000 in
theorem wd_1139 : am_wok (false, (Jvm.Cond.code ({ cls := "OrderMerge$Demands", name := "gather", desc := "(I)V" } : Jvm.MethodName) prog_2_method_2_code (6 : Nat) (Option.none : Option Jvm.ClassFile.FieldType))) := wd_m (tb_5 (i := 27) rfl) rfl
set_option maxRecDepth 100000 in
theorem wd_1140 : am_wok (false, (Jvm.Cond.methodLink "OrderMerge$Demands" (35 : Nat) ({ cls := "java/util/Arrays", name := "fill", desc := "([II)V" } : Jvm.MethodName))) := wd_m (tb_5 (i := 28) rfl) rfl
set_option maxRecDepth 100000 in
theorem wd_1141 : am_wok (false, (Jvm.Cond.methodLink "OrderMerge$Demands" (41 : Nat) ({ cls := "OrderMerge$Facts", name := "ancestors", desc := "(I)I" } : Jvm.MethodName))) := wd_m (tb_5 (i := 29) rfl) rfl
set_option maxRecDepth 100000 in
theorem wd_1142 : am_wok (false, (Jvm.Cond.methodLink "OrderMerge$Demands" (51 : Nat) ({ cls := "OrderMerge$Facts", name := "parentCount", desc := "(I)I" } : Jvm.MethodName))) := wd_m (tb_5 (i := 30) rfl) rfl
set_option maxRecDepth 100000 in
theorem wd_1143 : am_wok (false, (Jvm.Cond.methodLink "OrderMerge$Demands" (54 : Nat) ({ cls := "OrderMerge$Facts", name := "parentAt", desc := "(II)I" } : Jvm.MethodName))) := wd_m (tb_5 (i := 31) rfl) rfl
set_option maxRecDepth 100000 in
theorem wd_1144 : am_wok (false, (Jvm.Cond.methodLink "OrderMerge$Demands" (58 : Nat) ({ cls := "OrderMerge$Demands", name := "add", desc := "(II)V" } : Jvm.MethodName))) := wd_m (tb_5 (i := 32) rfl) rfl
set_option maxRecDepth 100000 in
theorem wd_1146 : am_wok (false, (Jvm.Cond.instanceMethod ({ cls := "OrderMerge$Demands", name := "add", desc := "(II)V" } : Jvm.MethodName))) := wd_m (tb_5 (i := 34) rfl) rfl
set_option maxRecDepth 100000 in
theorem wd_1147 : am_wok (false, (Jvm.Cond.code ({ cls := "OrderMerge$Demands", name := "add", desc := "(II)V" } : Jvm.MethodName) prog_2_method_4_code (3 : Nat) (Option.none : Option Jvm.ClassFile.FieldType))) := wd_m (tb_5 (i := 35) rfl) rfl
set_option maxRecDepth 100000 in
theorem wd_1148 : am_wok (false, (Jvm.Cond.methodLink "OrderMerge$Demands" (74 : Nat) ({ cls := "OrderMerge$Demands", name := "isMember", desc := "(I)Z" } : Jvm.MethodName))) := wd_m (tb_5 (i := 36) rfl) rfl
set_option maxRecDepth 100000 in
theorem wd_1149 : am_wok (false, (Jvm.Cond.static ({ cls := "OrderMerge$Demands", name := "isMember", desc := "(I)Z" } : Jvm.MethodName))) := wd_m (tb_5 (i := 37) rfl) rfl
set_option maxRecDepth 100000 in
theorem wd_1150 : am_wok (false, (Jvm.Cond.code ({ cls := "OrderMerge$Demands", name := "isMember", desc := "(I)Z" } : Jvm.MethodName) prog_2_method_5_code (1 : Nat) (Option.some Jvm.ClassFile.FieldType.boolean))) := wd_m (tb_5 (i := 38) rfl) rfl
set_option maxRecDepth 100000 in
theorem wd_1151 : am_wok (false, (Jvm.Cond.methodLink "OrderMerge$Demands" (62 : Nat) ({ cls := "OrderMerge$Demands", name := "addOrderOf", desc := "(I)V" } : Jvm.MethodName))) := wd_m (tb_5 (i := 39) rfl) rfl
set_option maxRecDepth 100000 in
theorem wd_1153 : am_wok (false, (Jvm.Cond.instanceMethod ({ cls := "OrderMerge$Demands", name := "addOrderOf", desc := "(I)V" } : Jvm.MethodName))) := wd_m (tb_5 (i := 41) rfl) rfl
set_option maxRecDepth 100000 in
theorem wd_1154 : am_wok (false, (Jvm.Cond.code ({ cls := "OrderMerge$Demands", name := "addOrderOf", desc := "(I)V" } : Jvm.MethodName) prog_2_method_3_code (4 : Nat) (Option.none : Option Jvm.ClassFile.FieldType))) := wd_m (tb_5 (i := 42) rfl) rfl
set_option maxRecDepth 100000 in
theorem wd_1155 : am_wok (false, (Jvm.Cond.methodLink "OrderMerge$Demands" (66 : Nat) ({ cls := "OrderMerge$Orders", name := "sizeOf", desc := "(I)I" } : Jvm.MethodName))) := wd_m (tb_5 (i := 43) rfl) rfl
set_option maxRecDepth 100000 in
theorem wd_1156 : am_wok (false, (Jvm.Cond.methodLink "OrderMerge$Demands" (71 : Nat) ({ cls := "OrderMerge$Orders", name := "at", desc := "(II)I" } : Jvm.MethodName))) := wd_m (tb_5 (i := 44) rfl) rfl
set_option maxRecDepth 100000 in
theorem wd_1157 : am_wok (false, (Jvm.Cond.methodLink "OrderMerge" (268 : Nat) ({ cls := "OrderMerge$Demands", name := "size", desc := "()I" } : Jvm.MethodName))) := wd_m (tb_5 (i := 45) rfl) rfl
set_option maxRecDepth 100000 in
theorem wd_1158 : am_wok (false, (Jvm.Cond.instanceMethod ({ cls := "OrderMerge$Demands", name := "size", desc := "()I" } : Jvm.MethodName))) := wd_m (tb_5 (i := 46) rfl) rfl
set_option maxRecDepth 100000 in
theorem wd_1159 : am_wok (false, (Jvm.Cond.selects "OrderMerge$Demands" ({ cls := "OrderMerge$Demands", name := "size", desc := "()I" } : Jvm.MethodName) ({ cls := "OrderMerge$Demands", name := "size", desc := "()I" } : Jvm.MethodName))) := wd_m (tb_5 (i := 47) rfl) rfl
set_option maxRecDepth 100000 in
theorem wd_1160 : am_wok (false, (Jvm.Cond.code ({ cls := "OrderMerge$Demands", name := "size", desc := "()I" } : Jvm.MethodName) prog_2_method_7_code (6 : Nat) (Option.some Jvm.ClassFile.FieldType.int))) := wd_m (tb_5 (i := 48) rfl) rfl
set_option maxRecDepth 100000 in
theorem wd_1161 : am_wok (false, (Jvm.Cond.methodLink "OrderMerge$Demands" (78 : Nat) ({ cls := "java/lang/Integer", name := "bitCount", desc := "(I)I" } : Jvm.MethodName))) := wd_m (tb_5 (i := 49) rfl) rfl
set_option maxRecDepth 100000 in
theorem wd_1162 : am_wok (false, (Jvm.Cond.static ({ cls := "java/lang/Integer", name := "bitCount", desc := "(I)I" } : Jvm.MethodName))) := wd_m (tb_5 (i := 50) rfl) rfl
set_option maxRecDepth 100000 in
theorem wd_1163 : am_wok (false, (Jvm.Cond.code ({ cls := "java/lang/Integer", name := "bitCount", desc := "(I)I" } : Jvm.MethodName) prog_17_method_49_code (1 : Nat) (Option.some Jvm.ClassFile.FieldType.int))) := wd_m (tb_5 (i := 51) rfl) rfl
set_option maxRecDepth 100000 in
theorem wd_1164 : am_wok (false, (Jvm.Cond.constant "java/lang/Integer" (265 : Nat) (1431655765 : Int32))) := wd_m (tb_5 (i := 52) rfl) rfl
set_option maxRecDepth 100000 in
theorem wd_1165 : am_wok (false, (Jvm.Cond.constant "java/lang/Integer" (266 : Nat) (858993459 : Int32))) := wd_m (tb_5 (i := 53) rfl) rfl
set_option maxRecDepth 100000 in
theorem wd_1166 : am_wok (false, (Jvm.Cond.constant "java/lang/Integer" (267 : Nat) (252645135 : Int32))) := wd_m (tb_5 (i := 54) rfl) rfl
set_option maxRecDepth 100000 in
theorem wd_1167 : am_wok (false, (Jvm.Cond.methodLink "OrderMergeLaw" (97 : Nat) ({ cls := "OrderMerge", name := "demand", desc := "(II)I" } : Jvm.MethodName))) := wd_m (tb_5 (i := 55) rfl) rfl
set_option maxRecDepth 100000 in
theorem wd_1168 : am_wok (false, (Jvm.Cond.instanceMethod ({ cls := "OrderMerge", name := "demand", desc := "(II)I" } : Jvm.MethodName))) := wd_m (tb_5 (i := 56) rfl) rfl
set_option maxRecDepth 100000 in
theorem wd_1169 : am_wok (false, (Jvm.Cond.selects "OrderMerge" ({ cls := "OrderMerge", name := "demand", desc := "(II)I" } : Jvm.MethodName) ({ cls := "OrderMerge", name := "demand", desc := "(II)I" } : Jvm.MethodName))) := wd_m (tb_5 (i := 57) rfl) rfl
set_option maxRecDepth 100000 in
theorem wd_1170 : am_wok (false, (Jvm.Cond.code ({ cls := "OrderMerge", name := "demand", desc := "(II)I" } : Jvm.MethodName) prog_1_method_30_code (4 : Nat) (Option.some Jvm.ClassFile.FieldType.int))) := wd_m (tb_5 (i := 58) rfl) rfl
set_option maxRecDepth 100000 in
theorem wd_1171 : am_wok (false, (Jvm.Cond.methodLink "OrderMerge" (270 : Nat) ({ cls := "OrderMerge$Demands", name := "at", desc := "(I)I" } : Jvm.MethodName))) := wd_m (tb_5 (i := 59) rfl) rfl
set_option maxRecDepth 100000 in
theorem wd_1172 : am_wok (false, (Jvm.Cond.instanceMethod ({ cls := "OrderMerge$Demands", name := "at", desc := "(I)I" } : Jvm.MethodName))) := wd_m (tb_5 (i := 60) rfl) rfl
set_option maxRecDepth 100000 in
theorem wd_1173 : am_wok (false, (Jvm.Cond.selects "OrderMerge$Demands" ({ cls := "OrderMerge$Demands", name := "at", desc := "(I)I" } : Jvm.MethodName) ({ cls := "OrderMerge$Demands", name := "at", desc := "(I)I" } : Jvm.MethodName))) := wd_m (tb_5 (i := 61) rfl) rfl
set_option maxRecDepth 100000 in
theorem wd_1174 : am_wok (false, (Jvm.Cond.code ({ cls := "OrderMerge$Demands", name := "at", desc := "(I)I" } : Jvm.MethodName) prog_2_method_8_code (4 : Nat) (Option.some Jvm.ClassFile.FieldType.int))) := wd_m (tb_5 (i := 62) rfl) rfl
set_option maxRecDepth 100000 in
theorem wd_1175 : am_wok (false, (Jvm.Cond.methodLink "OrderMerge$Demands" (83 : Nat) ({ cls := "OrderMerge$Demands", name := "isDemanded", desc := "(II)Z" } : Jvm.MethodName))) := wd_m (tb_5 (i := 63) rfl) rfl
set_option maxRecDepth 100000 in
theorem wd_1176 : am_wok (false, (Jvm.Cond.instanceMethod ({ cls := "OrderMerge$Demands", name := "isDemanded", desc := "(II)Z" } : Jvm.MethodName))) := wd_m (tb_5 (i := 64) rfl) rfl
set_option maxRecDepth 100000 in
theorem wd_1177 : am_wok (false, (Jvm.Cond.selects "OrderMerge$Demands" ({ cls := "OrderMerge$Demands", name := "isDemanded", desc := "(II)Z" } : Jvm.MethodName) ({ cls := "OrderMerge$Demands", name := "isDemanded", desc := "(II)Z" } : Jvm.MethodName))) := wd_m (tb_5 (i := 65) rfl) rfl
set_option maxRecDepth 100000 in
theorem wd_1178 : am_wok (false, (Jvm.Cond.code ({ cls := "OrderMerge$Demands", name := "isDemanded", desc := "(II)Z" } : Jvm.MethodName) prog_2_method_6_code (3 : Nat) (Option.some Jvm.ClassFile.FieldType.boolean))) := wd_m (tb_5 (i := 66) rfl) rfl
set_option maxRecDepth 100000 in
theorem wd_1179 : am_wok (false, (Jvm.Cond.methodLink "OrderMergeLaw" (101 : Nat) ({ cls := "OrderMerge", name := "ring", desc := "(II)I" } : Jvm.MethodName))) := wd_m (tb_5 (i := 67) rfl) rfl
set_option maxRecDepth 100000 in
theorem wd_1180 : am_wok (false, (Jvm.Cond.instanceMethod ({ cls := "OrderMerge", name := "ring", desc := "(II)I" } : Jvm.MethodName))) := wd_m (tb_5 (i := 68) rfl) rfl
set_option maxRecDepth 100000 in
theorem wd_1181 : am_wok (false, (Jvm.Cond.selects "OrderMerge" ({ cls := "OrderMerge", name := "ring", desc := "(II)I" } : Jvm.MethodName) ({ cls := "OrderMerge", name := "ring", desc := "(II)I" } : Jvm.MethodName))) := wd_m (tb_5 (i := 69) rfl) rfl
set_option maxRecDepth 100000 in
theorem wd_1182 : am_wok (false, (Jvm.Cond.code ({ cls := "OrderMerge", name := "ring", desc := "(II)I" } : Jvm.MethodName) prog_1_method_31_code (4 : Nat) (Option.some Jvm.ClassFile.FieldType.int))) := wd_m (tb_5 (i := 70) rfl) rfl
set_option maxRecDepth 100000 in
theorem wd_1183 : am_wok (false, (Jvm.Cond.methodLink "OrderMerge" (272 : Nat) ({ cls := "OrderMerge$Demands", name := "findRing", desc := "()V" } : Jvm.MethodName))) := wd_m (tb_5 (i := 71) rfl) rfl
set_option maxRecDepth 100000 in
theorem wd_1184 : am_wok (false, (Jvm.Cond.instanceMethod ({ cls := "OrderMerge$Demands", name := "findRing", desc := "()V" } : Jvm.MethodName))) := wd_m (tb_5 (i := 72) rfl) rfl
set_option maxRecDepth 100000 in
theorem wd_1185 : am_wok (false, (Jvm.Cond.selects "OrderMerge$Demands" ({ cls := "OrderMerge$Demands", name := "findRing", desc := "()V" } : Jvm.MethodName) ({ cls := "OrderMerge$Demands", name := "findRing", desc := "()V" } : Jvm.MethodName))) := wd_m (tb_5 (i := 73) rfl) rfl
set_option maxRecDepth 100000 in
theorem wd_1186 : am_wok (false, (Jvm.Cond.code ({ cls := "OrderMerge$Demands", name := "findRing", desc := "()V" } : Jvm.MethodName) prog_2_method_10_code (5 : Nat) (Option.none : Option Jvm.ClassFile.FieldType))) := wd_m (tb_5 (i := 74) rfl) rfl
set_option maxRecDepth 100000 in
theorem wd_1187 : am_wok (false, (Jvm.Cond.methodLink "OrderMerge$Demands" (90 : Nat) ({ cls := "OrderMerge$Demands", name := "measure", desc := "()V" } : Jvm.MethodName))) := wd_m (tb_5 (i := 75) rfl) rfl
set_option maxRecDepth 100000 in
theorem wd_1189 : am_wok (false, (Jvm.Cond.instanceMethod ({ cls := "OrderMerge$Demands", name := "measure", desc := "()V" } : Jvm.MethodName))) := wd_m (tb_5 (i := 77) rfl) rfl
set_option maxRecDepth 100000 in
theorem wd_1190 : am_wok (false, (Jvm.Cond.code ({ cls := "OrderMerge$Demands", name := "measure", desc := "()V" } : Jvm.MethodName) prog_2_method_14_code (5 : Nat) (Option.none : Option Jvm.ClassFile.FieldType))) := wd_m (tb_5 (i := 78) rfl) rfl
set_option maxRecDepth 100000 in
theorem wd_1191 : am_wok (false, (Jvm.Cond.methodLink "OrderMerge$Demands" (97 : Nat) ({ cls := "OrderMerge$Demands", name := "distance", desc := "(II)I" } : Jvm.MethodName))) := wd_m (tb_5 (i := 79) rfl) rfl
set_option maxRecDepth 100000 in
theorem wd_1193 : am_wok (false, (Jvm.Cond.instanceMethod ({ cls := "OrderMerge$Demands", name := "distance", desc := "(II)I" } : Jvm.MethodName))) := wd_m (tb_5 (i := 81) rfl) rfl
set_option maxRecDepth 100000 in
theorem wd_1194 : am_wok (false, (Jvm.Cond.code ({ cls := "OrderMerge$Demands", name := "distance", desc := "(II)I" } : Jvm.MethodName) prog_2_method_13_code (3 : Nat) (Option.some Jvm.ClassFile.FieldType.int))) := wd_m (tb_5 (i := 82) rfl) rfl
set_option maxRecDepth 100000 in
theorem wd_1195 : am_wok (false, (Jvm.Cond.methodLink "OrderMerge$Demands" (104 : Nat) ({ cls := "java/lang/Math", name := "min", desc := "(II)I" } : Jvm.MethodName))) := wd_m (tb_5 (i := 83) rfl) rfl
set_option maxRecDepth 100000 in
theorem wd_1196 : am_wok (false, (Jvm.Cond.methodLink "OrderMerge$Demands" (93 : Nat) ({ cls := "OrderMerge$Demands", name := "startOfRing", desc := "()I" } : Jvm.MethodName))) := wd_m (tb_5 (i := 84) rfl) rfl
set_option maxRecDepth 100000 in
theorem wd_1198 : am_wok (false, (Jvm.Cond.instanceMethod ({ cls := "OrderMerge$Demands", name := "startOfRing", desc := "()I" } : Jvm.MethodName))) := wd_m (tb_5 (i := 86) rfl) rfl
set_option maxRecDepth 100000 in
theorem wd_1199 : am_wok (false, (Jvm.Cond.code ({ cls := "OrderMerge$Demands", name := "startOfRing", desc := "()I" } : Jvm.MethodName) prog_2_method_11_code (4 : Nat) (Option.some Jvm.ClassFile.FieldType.int))) := wd_m (tb_5 (i := 87) rfl) rfl
set_option maxRecDepth 100000 in
theorem wd_1200 : am_wok (false, (Jvm.Cond.methodLink "OrderMerge$Demands" (100 : Nat) ({ cls := "OrderMerge$Demands", name := "nextOfRing", desc := "(III)I" } : Jvm.MethodName))) := wd_m (tb_5 (i := 88) rfl) rfl
set_option maxRecDepth 100000 in
theorem wd_1202 : am_wok (false, (Jvm.Cond.instanceMethod ({ cls := "OrderMerge$Demands", name := "nextOfRing", desc := "(III)I" } : Jvm.MethodName))) := wd_m (tb_5 (i := 90) rfl) rfl
set_option maxRecDepth 100000 in
theorem wd_1203 : am_wok (false, (Jvm.Cond.code ({ cls := "OrderMerge$Demands", name := "nextOfRing", desc := "(III)I" } : Jvm.MethodName) prog_2_method_12_code (5 : Nat) (Option.some Jvm.ClassFile.FieldType.int))) := wd_m (tb_5 (i := 91) rfl) rfl
set_option maxRecDepth 100000 in
theorem wd_1204 : am_wok (false, (Jvm.Cond.methodLink "OrderMerge" (275 : Nat) ({ cls := "OrderMerge$Demands", name := "ringAt", desc := "(I)I" } : Jvm.MethodName))) := wd_m (tb_5 (i := 92) rfl) rfl
set_option maxRecDepth 100000 in
theorem wd_1205 : am_wok (false, (Jvm.Cond.instanceMethod ({ cls := "OrderMerge$Demands", name := "ringAt", desc := "(I)I" } : Jvm.MethodName))) := wd_m (tb_5 (i := 93) rfl) rfl
set_option maxRecDepth 100000 in
theorem wd_1206 : am_wok (false, (Jvm.Cond.selects "OrderMerge$Demands" ({ cls := "OrderMerge$Demands", name := "ringAt", desc := "(I)I" } : Jvm.MethodName) ({ cls := "OrderMerge$Demands", name := "ringAt", desc := "(I)I" } : Jvm.MethodName))) := wd_m (tb_5 (i := 94) rfl) rfl
set_option maxRecDepth 100000 in
theorem wd_1207 : am_wok (false, (Jvm.Cond.code ({ cls := "OrderMerge$Demands", name := "ringAt", desc := "(I)I" } : Jvm.MethodName) prog_2_method_9_code (2 : Nat) (Option.some Jvm.ClassFile.FieldType.int))) := wd_m (tb_5 (i := 95) rfl) rfl
set_option maxRecDepth 100000 in
theorem wd_1208 : am_wok (false, (Jvm.Cond.methodLink "OrderMergeLaw" (105 : Nat) ({ cls := "OrderMerge", name := "ways", desc := "(I)I" } : Jvm.MethodName))) := wd_m (tb_5 (i := 96) rfl) rfl
set_option maxRecDepth 100000 in
theorem wd_1209 : am_wok (false, (Jvm.Cond.instanceMethod ({ cls := "OrderMerge", name := "ways", desc := "(I)I" } : Jvm.MethodName))) := wd_m (tb_5 (i := 97) rfl) rfl
set_option maxRecDepth 100000 in
theorem wd_1210 : am_wok (false, (Jvm.Cond.selects "OrderMerge" ({ cls := "OrderMerge", name := "ways", desc := "(I)I" } : Jvm.MethodName) ({ cls := "OrderMerge", name := "ways", desc := "(I)I" } : Jvm.MethodName))) := wd_m (tb_5 (i := 98) rfl) rfl
set_option maxRecDepth 100000 in
theorem wd_1211 : am_wok (false, (Jvm.Cond.code ({ cls := "OrderMerge", name := "ways", desc := "(I)I" } : Jvm.MethodName) prog_1_method_32_code (3 : Nat) (Option.some Jvm.ClassFile.FieldType.int))) := wd_m (tb_5 (i := 99) rfl) rfl
set_option maxRecDepth 100000 in
theorem wd_1212 : am_wok (false, (Jvm.Cond.methodLink "OrderMerge" (278 : Nat) ({ cls := "OrderMerge$Demands", name := "rowsThatMeetAll", desc := "()I" } : Jvm.MethodName))) := wd_m (tb_5 (i := 100) rfl) rfl
set_option maxRecDepth 100000 in
theorem wd_1213 : am_wok (false, (Jvm.Cond.instanceMethod ({ cls := "OrderMerge$Demands", name := "rowsThatMeetAll", desc := "()I" } : Jvm.MethodName))) := wd_m (tb_5 (i := 101) rfl) rfl
set_option maxRecDepth 100000 in
theorem wd_1214 : am_wok (false, (Jvm.Cond.selects "OrderMerge$Demands" ({ cls := "OrderMerge$Demands", name := "rowsThatMeetAll", desc := "()I" } : Jvm.MethodName) ({ cls := "OrderMerge$Demands", name := "rowsThatMeetAll", desc := "()I" } : Jvm.MethodName))) := wd_m (tb_5 (i := 102) rfl) rfl
set_option maxRecDepth 100000 in
theorem wd_1215 : am_wok (false, (Jvm.Cond.code ({ cls := "OrderMerge$Demands", name := "rowsThatMeetAll", desc := "()I" } : Jvm.MethodName) prog_2_method_15_code (2 : Nat) (Option.some Jvm.ClassFile.FieldType.int))) := wd_m (tb_5 (i := 103) rfl) rfl
set_option maxRecDepth 100000 in
theorem wd_1216 : am_wok (false, (Jvm.Cond.methodLink "OrderMerge$Demands" (109 : Nat) ({ cls := "OrderMerge$Demands", name := "endingsBehind", desc := "(II)I" } : Jvm.MethodName))) := wd_m (tb_5 (i := 104) rfl) rfl
set_option maxRecDepth 100000 in
theorem wd_1218 : am_wok (false, (Jvm.Cond.instanceMethod ({ cls := "OrderMerge$Demands", name := "endingsBehind", desc := "(II)I" } : Jvm.MethodName))) := wd_m (tb_5 (i := 106) rfl) rfl
set_option maxRecDepth 100000 in
theorem wd_1219 : am_wok (false, (Jvm.Cond.code ({ cls := "OrderMerge$Demands", name := "endingsBehind", desc := "(II)I" } : Jvm.MethodName) prog_2_method_16_code (6 : Nat) (Option.some Jvm.ClassFile.FieldType.int))) := wd_m (tb_5 (i := 107) rfl) rfl
set_option maxRecDepth 100000 in
theorem wd_1220 : am_wok (false, (Jvm.Cond.methodLink "OrderMergeLaw" (109 : Nat) ({ cls := "OrderMerge", name := "rank", desc := "(I)I" } : Jvm.MethodName))) := wd_m (tb_5 (i := 108) rfl) rfl
set_option maxRecDepth 100000 in
theorem wd_1221 : am_wok (false, (Jvm.Cond.instanceMethod ({ cls := "OrderMerge", name := "rank", desc := "(I)I" } : Jvm.MethodName))) := wd_m (tb_5 (i := 109) rfl) rfl
set_option maxRecDepth 100000 in
theorem wd_1222 : am_wok (false, (Jvm.Cond.selects "OrderMerge" ({ cls := "OrderMerge", name := "rank", desc := "(I)I" } : Jvm.MethodName) ({ cls := "OrderMerge", name := "rank", desc := "(I)I" } : Jvm.MethodName))) := wd_m (tb_5 (i := 110) rfl) rfl
set_option maxRecDepth 100000 in
theorem wd_1223 : am_wok (false, (Jvm.Cond.code ({ cls := "OrderMerge", name := "rank", desc := "(I)I" } : Jvm.MethodName) prog_1_method_33_code (2 : Nat) (Option.some Jvm.ClassFile.FieldType.int))) := wd_m (tb_5 (i := 111) rfl) rfl
set_option maxRecDepth 100000 in
theorem wd_1224 : am_wok (false, (Jvm.Cond.methodLink "OrderMerge" (281 : Nat) ({ cls := "OrderMerge$Orders", name := "hasOrder", desc := "(I)Z" } : Jvm.MethodName))) := wd_m (tb_5 (i := 112) rfl) rfl
set_option maxRecDepth 100000 in
theorem wd_1225 : am_wok (false, (Jvm.Cond.methodLink "OrderMerge" (284 : Nat) ({ cls := "OrderMerge$Demands", name := "rowsAheadOfOrder", desc := "(I)I" } : Jvm.MethodName))) := wd_m (tb_5 (i := 113) rfl) rfl
set_option maxRecDepth 100000 in
theorem wd_1226 : am_wok (false, (Jvm.Cond.instanceMethod ({ cls := "OrderMerge$Demands", name := "rowsAheadOfOrder", desc := "(I)I" } : Jvm.MethodName))) := wd_m (tb_5 (i := 114) rfl) rfl
set_option maxRecDepth 100000 in
theorem wd_1227 : am_wok (false, (Jvm.Cond.selects "OrderMerge$Demands" ({ cls := "OrderMerge$Demands", name := "rowsAheadOfOrder", desc := "(I)I" } : Jvm.MethodName) ({ cls := "OrderMerge$Demands", name := "rowsAheadOfOrder", desc := "(I)I" } : Jvm.MethodName))) := wd_m (tb_5 (i := 115) rfl) rfl
set_option maxRecDepth 100000 in
theorem wd_1228 : am_wok (false, (Jvm.Cond.code ({ cls := "OrderMerge$Demands", name := "rowsAheadOfOrder", desc := "(I)I" } : Jvm.MethodName) prog_2_method_17_code (6 : Nat) (Option.some Jvm.ClassFile.FieldType.int))) := wd_m (tb_5 (i := 116) rfl) rfl
set_option maxRecDepth 100000 in
theorem wd_1229 : am_wok (false, (Jvm.Cond.methodLink "OrderMerge$Demands" (112 : Nat) ({ cls := "OrderMerge$Demands", name := "rowsThatMeetAll", desc := "()I" } : Jvm.MethodName))) := wd_m (tb_5 (i := 117) rfl) rfl
set_option maxRecDepth 100000 in
theorem wd_1230 : am_wok (false, (Jvm.Cond.methodLink "OrderMergeLaw" (113 : Nat) ({ cls := "OrderMerge", name := "old", desc := "(III)I" } : Jvm.MethodName))) := wd_m (tb_5 (i := 118) rfl) rfl
set_option maxRecDepth 100000 in
theorem wd_1231 : am_wok (false, (Jvm.Cond.instanceMethod ({ cls := "OrderMerge", name := "old", desc := "(III)I" } : Jvm.MethodName))) := wd_m (tb_5 (i := 119) rfl) rfl
set_option maxRecDepth 100000 in
theorem wd_1232 : am_wok (false, (Jvm.Cond.selects "OrderMerge" ({ cls := "OrderMerge", name := "old", desc := "(III)I" } : Jvm.MethodName) ({ cls := "OrderMerge", name := "old", desc := "(III)I" } : Jvm.MethodName))) := wd_m (tb_5 (i := 120) rfl) rfl
set_option maxRecDepth 100000 in
theorem wd_1233 : am_wok (false, (Jvm.Cond.code ({ cls := "OrderMerge", name := "old", desc := "(III)I" } : Jvm.MethodName) prog_1_method_35_code (4 : Nat) (Option.some Jvm.ClassFile.FieldType.int))) := wd_m (tb_5 (i := 121) rfl) rfl
set_option maxRecDepth 100000 in
theorem wd_1234 : am_wok (false, (Jvm.Cond.methodLink "OrderMerge" (287 : Nat) ({ cls := "OrderMerge", name := "isOldKind", desc := "(I)Z" } : Jvm.MethodName))) := wd_m (tb_5 (i := 122) rfl) rfl
set_option maxRecDepth 100000 in
theorem wd_1235 : am_wok (false, (Jvm.Cond.static ({ cls := "OrderMerge", name := "isOldKind", desc := "(I)Z" } : Jvm.MethodName))) := wd_m (tb_5 (i := 123) rfl) rfl
set_option maxRecDepth 100000 in
theorem wd_1236 : am_wok (false, (Jvm.Cond.code ({ cls := "OrderMerge", name := "isOldKind", desc := "(I)Z" } : Jvm.MethodName) prog_1_method_39_code (1 : Nat) (Option.some Jvm.ClassFile.FieldType.boolean))) := wd_m (tb_5 (i := 124) rfl) rfl
set_option maxRecDepth 100000 in
theorem wd_1237 : am_wok (false, (Jvm.Cond.methodLink "OrderMerge" (290 : Nat) ({ cls := "OrderMerge$OldOrders", name := "build", desc := "(LOrderMerge$Facts;I)V" } : Jvm.MethodName))) := wd_m (tb_5 (i := 125) rfl) rfl
set_option maxRecDepth 100000 in
theorem wd_1238 : am_wok (false, (Jvm.Cond.instanceMethod ({ cls := "OrderMerge$OldOrders", name := "build", desc := "(LOrderMerge$Facts;I)V" } : Jvm.MethodName))) := wd_m (tb_5 (i := 126) rfl) rfl
set_option maxRecDepth 100000 in
theorem wd_1239 : am_wok (false, (Jvm.Cond.selects "OrderMerge$OldOrders" ({ cls := "OrderMerge$OldOrders", name := "build", desc := "(LOrderMerge$Facts;I)V" } : Jvm.MethodName) ({ cls := "OrderMerge$OldOrders", name := "build", desc := "(LOrderMerge$Facts;I)V" } : Jvm.MethodName))) := wd_m (tb_5 (i := 127) rfl) rfl
set_option maxRecDepth 100000 in
theorem wd_1240 : am_wok (false, (Jvm.Cond.code ({ cls := "OrderMerge$OldOrders", name := "build", desc := "(LOrderMerge$Facts;I)V" } : Jvm.MethodName) prog_7_method_4_code (4 : Nat) (Option.none : Option Jvm.ClassFile.FieldType))) := wd_m (tb_5 (i := 128) rfl) rfl
set_option maxRecDepth 100000 in
theorem wd_1241 : am_wok (false, (Jvm.Cond.methodLink "OrderMerge$OldOrders" (25 : Nat) ({ cls := "java/util/Arrays", name := "fill", desc := "([II)V" } : Jvm.MethodName))) := wd_m (tb_5 (i := 129) rfl) rfl
set_option maxRecDepth 100000 in
theorem wd_1242 : am_wok (false, (Jvm.Cond.methodLink "OrderMerge$OldOrders" (37 : Nat) ({ cls := "OrderMerge$OldOrders", name := "append", desc := "(II)V" } : Jvm.MethodName))) := wd_m (tb_5 (i := 130) rfl) rfl
set_option maxRecDepth 100000 in
theorem wd_1244 : am_wok (false, (Jvm.Cond.instanceMethod ({ cls := "OrderMerge$OldOrders", name := "append", desc := "(II)V" } : Jvm.MethodName))) := wd_m (tb_5 (i := 132) rfl) rfl
set_option maxRecDepth 100000 in
theorem wd_1245 : am_wok (false, (Jvm.Cond.code ({ cls := "OrderMerge$OldOrders", name := "append", desc := "(II)V" } : Jvm.MethodName) prog_7_method_5_code (3 : Nat) (Option.none : Option Jvm.ClassFile.FieldType))) := wd_m (tb_5 (i := 133) rfl) rfl
set_option maxRecDepth 100000 in
theorem wd_1246 : am_wok (false, (Jvm.Cond.methodLink "OrderMerge$OldOrders" (41 : Nat) ({ cls := "OrderMerge$OldOrders", name := "appendByDepth", desc := "(LOrderMerge$Facts;I)V" } : Jvm.MethodName))) := wd_m (tb_5 (i := 134) rfl) rfl
set_option maxRecDepth 100000 in
theorem wd_1248 : am_wok (false, (Jvm.Cond.instanceMethod ({ cls := "OrderMerge$OldOrders", name := "appendByDepth", desc := "(LOrderMerge$Facts;I)V" } : Jvm.MethodName))) := wd_m (tb_5 (i := 136) rfl) rfl
set_option maxRecDepth 100000 in
theorem wd_1249 : am_wok (false, (Jvm.Cond.code ({ cls := "OrderMerge$OldOrders", name := "appendByDepth", desc := "(LOrderMerge$Facts;I)V" } : Jvm.MethodName) prog_7_method_6_code (8 : Nat) (Option.none : Option Jvm.ClassFile.FieldType))) := wd_m (tb_5 (i := 137) rfl) rfl
set_option maxRecDepth 100000 in
theorem wd_1250 : am_wok (false, (Jvm.Cond.methodLink "OrderMerge$OldOrders" (51 : Nat) ({ cls := "OrderMerge$Facts", name := "parentCount", desc := "(I)I" } : Jvm.MethodName))) := wd_m (tb_5 (i := 138) rfl) rfl
set_option maxRecDepth 100000 in
theorem wd_1251 : am_wok (false, (Jvm.Cond.methodLink "OrderMerge$OldOrders" (54 : Nat) ({ cls := "OrderMerge$Facts", name := "parentAt", desc := "(II)I" } : Jvm.MethodName))) := wd_m (tb_5 (i := 139) rfl) rfl
set_option maxRecDepth 100000 in
theorem wd_1252 : am_wok (false, (Jvm.Cond.methodLink "OrderMerge$OldOrders" (21 : Nat) ({ cls := "OrderMerge$OldOrders", name := "sizeOf", desc := "(I)I" } : Jvm.MethodName))) := wd_m (tb_5 (i := 140) rfl) rfl
set_option maxRecDepth 100000 in
theorem wd_1253 : am_wok (false, (Jvm.Cond.instanceMethod ({ cls := "OrderMerge$OldOrders", name := "sizeOf", desc := "(I)I" } : Jvm.MethodName))) := wd_m (tb_5 (i := 141) rfl) rfl
set_option maxRecDepth 100000 in
theorem wd_1254 : am_wok (false, (Jvm.Cond.selects "OrderMerge$OldOrders" ({ cls := "OrderMerge$OldOrders", name := "sizeOf", desc := "(I)I" } : Jvm.MethodName) ({ cls := "OrderMerge$OldOrders", name := "sizeOf", desc := "(I)I" } : Jvm.MethodName))) := wd_m (tb_5 (i := 142) rfl) rfl
set_option maxRecDepth 100000 in
theorem wd_1255 : am_wok (false, (Jvm.Cond.code ({ cls := "OrderMerge$OldOrders", name := "sizeOf", desc := "(I)I" } : Jvm.MethodName) prog_7_method_2_code (2 : Nat) (Option.some Jvm.ClassFile.FieldType.int))) := wd_m (tb_5 (i := 143) rfl) rfl
set_option maxRecDepth 100000 in
theorem wd_1256 : am_wok (false, (Jvm.Cond.methodLink "OrderMerge$OldOrders" (58 : Nat) ({ cls := "OrderMerge$OldOrders", name := "at", desc := "(II)I" } : Jvm.MethodName))) := wd_m (tb_5 (i := 144) rfl) rfl
set_option maxRecDepth 100000 in
theorem wd_1257 : am_wok (false, (Jvm.Cond.instanceMethod ({ cls := "OrderMerge$OldOrders", name := "at", desc := "(II)I" } : Jvm.MethodName))) := wd_m (tb_5 (i := 145) rfl) rfl
set_option maxRecDepth 100000 in
theorem wd_1258 : am_wok (false, (Jvm.Cond.selects "OrderMerge$OldOrders" ({ cls := "OrderMerge$OldOrders", name := "at", desc := "(II)I" } : Jvm.MethodName) ({ cls := "OrderMerge$OldOrders", name := "at", desc := "(II)I" } : Jvm.MethodName))) := wd_m (tb_5 (i := 146) rfl) rfl
set_option maxRecDepth 100000 in
theorem wd_1259 : am_wok (false, (Jvm.Cond.code ({ cls := "OrderMerge$OldOrders", name := "at", desc := "(II)I" } : Jvm.MethodName) prog_7_method_3_code (3 : Nat) (Option.some Jvm.ClassFile.FieldType.int))) := wd_m (tb_5 (i := 147) rfl) rfl
set_option maxRecDepth 100000 in
theorem wd_1260 : am_wok (false, (Jvm.Cond.methodLink "OrderMerge$OldOrders" (45 : Nat) ({ cls := "OrderMerge$OldOrders", name := "appendLastOnes", desc := "(LOrderMerge$Facts;I)V" } : Jvm.MethodName))) := wd_m (tb_5 (i := 148) rfl) rfl
set_option maxRecDepth 100000 in
theorem wd_1262 : am_wok (false, (Jvm.Cond.instanceMethod ({ cls := "OrderMerge$OldOrders", name := "appendLastOnes", desc := "(LOrderMerge$Facts;I)V" } : Jvm.MethodName))) := wd_m (tb_5 (i := 150) rfl) rfl
set_option maxRecDepth 100000 in
theorem wd_1263 : am_wok (false, (Jvm.Cond.code ({ cls := "OrderMerge$OldOrders", name := "appendLastOnes", desc := "(LOrderMerge$Facts;I)V" } : Jvm.MethodName) prog_7_method_7_code (9 : Nat) (Option.none : Option Jvm.ClassFile.FieldType))) := wd_m (tb_5 (i := 151) rfl) rfl
set_option maxRecDepth 100000 in
theorem wd_1264 : am_wok (false, (Jvm.Cond.methodLink "OrderMerge$OldOrders" (48 : Nat) ({ cls := "OrderMerge$OldOrders", name := "appendByBreadth", desc := "(LOrderMerge$Facts;I)V" } : Jvm.MethodName))) := wd_m (tb_5 (i := 152) rfl) rfl
set_option maxRecDepth 100000 in
theorem wd_1266 : am_wok (false, (Jvm.Cond.instanceMethod ({ cls := "OrderMerge$OldOrders", name := "appendByBreadth", desc := "(LOrderMerge$Facts;I)V" } : Jvm.MethodName))) := wd_m (tb_5 (i := 154) rfl) rfl
set_option maxRecDepth 100000 in
theorem wd_1267 : am_wok (false, (Jvm.Cond.code ({ cls := "OrderMerge$OldOrders", name := "appendByBreadth", desc := "(LOrderMerge$Facts;I)V" } : Jvm.MethodName) prog_7_method_8_code (8 : Nat) (Option.none : Option Jvm.ClassFile.FieldType))) := wd_m (tb_5 (i := 155) rfl) rfl
set_option maxRecDepth 100000 in
theorem wd_1268 : am_wok (false, (Jvm.Cond.methodLink "OrderMerge" (294 : Nat) ({ cls := "OrderMerge$OldOrders", name := "at", desc := "(II)I" } : Jvm.MethodName))) := wd_m (tb_5 (i := 156) rfl) rfl
set_option maxRecDepth 100000 in
theorem wd_1269 : am_wok (false, (Jvm.Cond.methodLink "OrderMergeLaw" (117 : Nat) ({ cls := "OrderMerge", name := "breaks", desc := "(II)I" } : Jvm.MethodName))) := wd_m (tb_5 (i := 157) rfl) rfl
set_option maxRecDepth 100000 in
theorem wd_1270 : am_wok (false, (Jvm.Cond.instanceMethod ({ cls := "OrderMerge", name := "breaks", desc := "(II)I" } : Jvm.MethodName))) := wd_m (tb_5 (i := 158) rfl) rfl
set_option maxRecDepth 100000 in
theorem wd_1271 : am_wok (false, (Jvm.Cond.selects "OrderMerge" ({ cls := "OrderMerge", name := "breaks", desc := "(II)I" } : Jvm.MethodName) ({ cls := "OrderMerge", name := "breaks", desc := "(II)I" } : Jvm.MethodName))) := wd_m (tb_5 (i := 159) rfl) rfl
set_option maxRecDepth 100000 in
theorem wd_1272 : am_wok (false, (Jvm.Cond.code ({ cls := "OrderMerge", name := "breaks", desc := "(II)I" } : Jvm.MethodName) prog_1_method_36_code (6 : Nat) (Option.some Jvm.ClassFile.FieldType.int))) := wd_m (tb_5 (i := 160) rfl) rfl
set_option maxRecDepth 100000 in
theorem wd_1273 : am_wok (false, (Jvm.Cond.methodLink "OrderMerge" (295 : Nat) ({ cls := "OrderMerge$OldOrders", name := "sizeOf", desc := "(I)I" } : Jvm.MethodName))) := wd_m (tb_5 (i := 161) rfl) rfl
set_option maxRecDepth 100000 in
theorem wd_1274 : am_wok (false, (Jvm.Cond.methodLink "OrderMerge" (298 : Nat) ({ cls := "OrderMerge$Demands", name := "isDemanded", desc := "(II)Z" } : Jvm.MethodName))) := wd_m (tb_5 (i := 162) rfl) rfl
set_option maxRecDepth 100000 in
theorem wd_1275 : am_wok (false, (Jvm.Cond.methodLink "OrderMergeLaw" (121 : Nat) ({ cls := "OrderMerge", name := "same", desc := "(I)I" } : Jvm.MethodName))) := wd_m (tb_5 (i := 163) rfl) rfl
set_option maxRecDepth 100000 in
theorem wd_1276 : am_wok (false, (Jvm.Cond.instanceMethod ({ cls := "OrderMerge", name := "same", desc := "(I)I" } : Jvm.MethodName))) := wd_m (tb_5 (i := 164) rfl) rfl
set_option maxRecDepth 100000 in
theorem wd_1277 : am_wok (false, (Jvm.Cond.selects "OrderMerge" ({ cls := "OrderMerge", name := "same", desc := "(I)I" } : Jvm.MethodName) ({ cls := "OrderMerge", name := "same", desc := "(I)I" } : Jvm.MethodName))) := wd_m (tb_5 (i := 165) rfl) rfl
set_option maxRecDepth 100000 in
theorem wd_1278 : am_wok (false, (Jvm.Cond.code ({ cls := "OrderMerge", name := "same", desc := "(I)I" } : Jvm.MethodName) prog_1_method_37_code (4 : Nat) (Option.some Jvm.ClassFile.FieldType.int))) := wd_m (tb_5 (i := 166) rfl) rfl
set_option maxRecDepth 100000 in
theorem wd_1279 : am_wok (false, (Jvm.Cond.methodLink "OrderMerge" (302 : Nat) ({ cls := "OrderMerge", name := "isOldOrder", desc := "(I)Z" } : Jvm.MethodName))) := wd_m (tb_5 (i := 167) rfl) rfl
set_option maxRecDepth 100000 in
theorem wd_1281 : am_wok (false, (Jvm.Cond.instanceMethod ({ cls := "OrderMerge", name := "isOldOrder", desc := "(I)Z" } : Jvm.MethodName))) := wd_m (tb_5 (i := 169) rfl) rfl
set_option maxRecDepth 100000 in
theorem wd_1282 : am_wok (false, (Jvm.Cond.code ({ cls := "OrderMerge", name := "isOldOrder", desc := "(I)Z" } : Jvm.MethodName) prog_1_method_38_code (4 : Nat) (Option.some Jvm.ClassFile.FieldType.boolean))) := wd_m (tb_5 (i := 170) rfl) rfl
set_option maxRecDepth 100000 in
theorem wd_1283 : am_wok (false, (Jvm.Cond.methodLink "OrderMerge" (305 : Nat) ({ cls := "OrderMerge$Orders", name := "sizeOf", desc := "(I)I" } : Jvm.MethodName))) := wd_m (tb_5 (i := 171) rfl) rfl
set_option maxRecDepth 100000 in
theorem wd_1284 : am_wok (false, (Jvm.Cond.methodLink "OrderMergeLaw" (125 : Nat) ({ cls := "OrderMerge", name := "call", desc := "(II)I" } : Jvm.MethodName))) := wd_m (tb_5 (i := 172) rfl) rfl
set_option maxRecDepth 100000 in
theorem wd_1285 : am_wok (false, (Jvm.Cond.instanceMethod ({ cls := "OrderMerge", name := "call", desc := "(II)I" } : Jvm.MethodName))) := wd_m (tb_5 (i := 173) rfl) rfl
set_option maxRecDepth 100000 in
theorem wd_1286 : am_wok (false, (Jvm.Cond.selects "OrderMerge" ({ cls := "OrderMerge", name := "call", desc := "(II)I" } : Jvm.MethodName) ({ cls := "OrderMerge", name := "call", desc := "(II)I" } : Jvm.MethodName))) := wd_m (tb_5 (i := 174) rfl) rfl
set_option maxRecDepth 100000 in
theorem wd_1287 : am_wok (false, (Jvm.Cond.code ({ cls := "OrderMerge", name := "call", desc := "(II)I" } : Jvm.MethodName) prog_1_method_40_code (3 : Nat) (Option.some Jvm.ClassFile.FieldType.int))) := wd_m (tb_5 (i := 175) rfl) rfl
set_option maxRecDepth 100000 in
theorem wd_1288 : am_wok (false, (Jvm.Cond.constant "OrderMerge" (306 : Nat) (-99000002 : Int32))) := wd_m (tb_5 (i := 176) rfl) rfl
set_option maxRecDepth 100000 in
theorem wd_1289 : am_wok (false, (Jvm.Cond.constant "OrderMerge" (307 : Nat) (-99000005 : Int32))) := wd_m (tb_5 (i := 177) rfl) rfl
set_option maxRecDepth 100000 in
theorem wd_1290 : am_wok (false, (Jvm.Cond.methodLink "OrderMerge" (308 : Nat) ({ cls := "OrderMerge$Voice", name := "answer", desc := "(III)I" } : Jvm.MethodName))) := wd_m (tb_5 (i := 178) rfl) rfl
set_option maxRecDepth 100000 in
theorem wd_1291 : am_wok (false, (Jvm.Cond.instanceMethod ({ cls := "OrderMerge$Voice", name := "answer", desc := "(III)I" } : Jvm.MethodName))) := wd_m (tb_5 (i := 179) rfl) rfl
set_option maxRecDepth 100000 in
theorem wd_1292 : am_wok (false, (Jvm.Cond.selects "OrderMerge$Voice" ({ cls := "OrderMerge$Voice", name := "answer", desc := "(III)I" } : Jvm.MethodName) ({ cls := "OrderMerge$Voice", name := "answer", desc := "(III)I" } : Jvm.MethodName))) := wd_m (tb_5 (i := 180) rfl) rfl
set_option maxRecDepth 100000 in
theorem wd_1293 : am_wok (false, (Jvm.Cond.code ({ cls := "OrderMerge$Voice", name := "answer", desc := "(III)I" } : Jvm.MethodName) prog_12_method_4_code (5 : Nat) (Option.some Jvm.ClassFile.FieldType.int))) := wd_m (tb_5 (i := 181) rfl) rfl
set_option maxRecDepth 100000 in
theorem wd_1294 : am_wok (false, (Jvm.Cond.methodLink "OrderMerge$Voice" (76 : Nat) ({ cls := "OrderMerge$Voice", name := "trace", desc := "(III)V" } : Jvm.MethodName))) := wd_m (tb_5 (i := 182) rfl) rfl
set_option maxRecDepth 100000 in
theorem wd_1295 : am_wok (false, (Jvm.Cond.instanceMethod ({ cls := "OrderMerge$Voice", name := "trace", desc := "(III)V" } : Jvm.MethodName))) := wd_m (tb_5 (i := 183) rfl) rfl
set_option maxRecDepth 100000 in
theorem wd_1296 : am_wok (false, (Jvm.Cond.selects "OrderMerge$Voice" ({ cls := "OrderMerge$Voice", name := "trace", desc := "(III)V" } : Jvm.MethodName) ({ cls := "OrderMerge$Voice", name := "trace", desc := "(III)V" } : Jvm.MethodName))) := wd_m (tb_5 (i := 184) rfl) rfl
set_option maxRecDepth 100000 in
theorem wd_1297 : am_wok (false, (Jvm.Cond.code ({ cls := "OrderMerge$Voice", name := "trace", desc := "(III)V" } : Jvm.MethodName) prog_12_method_2_code (6 : Nat) (Option.none : Option Jvm.ClassFile.FieldType))) := wd_m (tb_5 (i := 185) rfl) rfl
set_option maxRecDepth 100000 in
theorem wd_1298 : am_wok (false, (Jvm.Cond.methodLink "OrderMerge$Voice" (45 : Nat) ({ cls := "OrderMerge$Orders", name := "sizeOf", desc := "(I)I" } : Jvm.MethodName))) := wd_m (tb_5 (i := 186) rfl) rfl
set_option maxRecDepth 100000 in
theorem wd_1299 : am_wok (false, (Jvm.Cond.methodLink "OrderMerge$Voice" (51 : Nat) ({ cls := "OrderMerge$Orders", name := "at", desc := "(II)I" } : Jvm.MethodName))) := wd_m (tb_5 (i := 187) rfl) rfl
set_option maxRecDepth 100000 in
theorem wd_1300 : am_wok (false, (Jvm.Cond.methodLink "OrderMerge$Voice" (64 : Nat) ({ cls := "OrderMerge$Facts", name := "definitionAt", desc := "(II)I" } : Jvm.MethodName))) := wd_m (tb_5 (i := 188) rfl) rfl
set_option maxRecDepth 100000 in
theorem wd_1301 : am_wok (false, (Jvm.Cond.methodLink "OrderMerge$Voice" (72 : Nat) ({ cls := "OrderMerge$Voice", name := "run", desc := "([I)I" } : Jvm.MethodName))) := wd_m (tb_5 (i := 189) rfl) rfl
set_option maxRecDepth 100000 in
theorem wd_1303 : am_wok (false, (Jvm.Cond.instanceMethod ({ cls := "OrderMerge$Voice", name := "run", desc := "([I)I" } : Jvm.MethodName))) := wd_m (tb_5 (i := 191) rfl) rfl
set_option maxRecDepth 100000 in
theorem wd_1304 : am_wok (false, (Jvm.Cond.code ({ cls := "OrderMerge$Voice", name := "run", desc := "([I)I" } : Jvm.MethodName) prog_12_method_8_code (6 : Nat) (Option.some Jvm.ClassFile.FieldType.int))) := wd_m (tb_5 (i := 192) rfl) rfl
set_option maxRecDepth 100000 in
theorem wd_1305 : am_wok (false, (Jvm.Cond.methodLink "OrderMerge$Voice" (128 : Nat) ({ cls := "OrderMerge$Voice", name := "push", desc := "(I)V" } : Jvm.MethodName))) := wd_m (tb_5 (i := 193) rfl) rfl
set_option maxRecDepth 100000 in
theorem wd_1307 : am_wok (false, (Jvm.Cond.instanceMethod ({ cls := "OrderMerge$Voice", name := "push", desc := "(I)V" } : Jvm.MethodName))) := wd_m (tb_5 (i := 195) rfl) rfl
set_option maxRecDepth 100000 in
theorem wd_1308 : am_wok (false, (Jvm.Cond.code ({ cls := "OrderMerge$Voice", name := "push", desc := "(I)V" } : Jvm.MethodName) prog_12_method_9_code (2 : Nat) (Option.none : Option Jvm.ClassFile.FieldType))) := wd_m (tb_5 (i := 196) rfl) rfl
set_option maxRecDepth 100000 in
theorem wd_1309 : am_wok (false, (Jvm.Cond.methodLink "OrderMerge$Voice" (132 : Nat) ({ cls := "OrderMerge$Voice", name := "work", desc := "(I)V" } : Jvm.MethodName))) := wd_m (tb_5 (i := 197) rfl) rfl
set_option maxRecDepth 100000 in
theorem wd_1311 : am_wok (false, (Jvm.Cond.instanceMethod ({ cls := "OrderMerge$Voice", name := "work", desc := "(I)V" } : Jvm.MethodName))) := wd_m (tb_5 (i := 199) rfl) rfl
set_option maxRecDepth 100000 in
theorem wd_1312 : am_wok (false, (Jvm.Cond.code ({ cls := "OrderMerge$Voice", name := "work", desc := "(I)V" } : Jvm.MethodName) prog_12_method_11_code (6 : Nat) (Option.none : Option Jvm.ClassFile.FieldType))) := wd_m (tb_5 (i := 200) rfl) rfl
set_option maxRecDepth 100000 in
theorem wd_1313 : am_wok (false, (Jvm.Cond.methodLink "OrderMerge$Voice" (135 : Nat) ({ cls := "OrderMerge$Voice", name := "pop", desc := "()I" } : Jvm.MethodName))) := wd_m (tb_5 (i := 201) rfl) rfl
set_option maxRecDepth 100000 in
theorem wd_1315 : am_wok (false, (Jvm.Cond.instanceMethod ({ cls := "OrderMerge$Voice", name := "pop", desc := "()I" } : Jvm.MethodName))) := wd_m (tb_5 (i := 203) rfl) rfl
set_option maxRecDepth 100000 in
theorem wd_1316 : am_wok (false, (Jvm.Cond.code ({ cls := "OrderMerge$Voice", name := "pop", desc := "()I" } : Jvm.MethodName) prog_12_method_10_code (1 : Nat) (Option.some Jvm.ClassFile.FieldType.int))) := wd_m (tb_5 (i := 204) rfl) rfl
set_option maxRecDepth 100000 in
theorem wd_1317 : am_wok (false, (Jvm.Cond.methodLink "OrderMerge$Voice" (139 : Nat) ({ cls := "OrderMerge$Voice", name := "joined", desc := "(IJJ)J" } : Jvm.MethodName))) := wd_m (tb_5 (i := 205) rfl) rfl
set_option maxRecDepth 100000 in
theorem wd_1318 : am_wok (false, (Jvm.Cond.static ({ cls := "OrderMerge$Voice", name := "joined", desc := "(IJJ)J" } : Jvm.MethodName))) := wd_m (tb_5 (i := 206) rfl) rfl
set_option maxRecDepth 100000 in
theorem wd_1319 : am_wok (false, (Jvm.Cond.code ({ cls := "OrderMerge$Voice", name := "joined", desc := "(IJJ)J" } : Jvm.MethodName) prog_12_method_12_code (5 : Nat) (Option.some Jvm.ClassFile.FieldType.long))) := wd_m (tb_5 (i := 207) rfl) rfl
set_option maxRecDepth 100000 in
theorem wd_1320 : am_wok (false, (Jvm.Cond.methodLink "OrderMerge$Voice" (97 : Nat) ({ cls := "OrderMerge$Voice", name := "keep", desc := "(J)I" } : Jvm.MethodName))) := wd_m (tb_5 (i := 208) rfl) rfl
set_option maxRecDepth 100000 in
theorem wd_1321 : am_wok (false, (Jvm.Cond.static ({ cls := "OrderMerge$Voice", name := "keep", desc := "(J)I" } : Jvm.MethodName))) := wd_m (tb_5 (i := 209) rfl) rfl
set_option maxRecDepth 100000 in
theorem wd_1322 : am_wok (false, (Jvm.Cond.code ({ cls := "OrderMerge$Voice", name := "keep", desc := "(J)I" } : Jvm.MethodName) prog_12_method_13_code (2 : Nat) (Option.some Jvm.ClassFile.FieldType.int))) := wd_m (tb_5 (i := 210) rfl) rfl
set_option maxRecDepth 100000 in
theorem wd_1323 : am_wok (false, (Jvm.Cond.constantLong "OrderMerge$Voice" (143 : Nat) (1000000 : Int64))) := wd_m (tb_5 (i := 211) rfl) rfl
set_option maxRecDepth 100000 in
theorem wd_1324 : am_wok (false, (Jvm.Cond.constant "OrderMerge$Voice" (145 : Nat) (1000000 : Int32))) := wd_m (tb_5 (i := 212) rfl) rfl
set_option maxRecDepth 100000 in
theorem wd_1325 : am_wok (false, (Jvm.Cond.constantLong "OrderMerge$Voice" (146 : Nat) (-1000000 : Int64))) := wd_m (tb_5 (i := 213) rfl) rfl
set_option maxRecDepth 100000 in
theorem wd_1326 : am_wok (false, (Jvm.Cond.constant "OrderMerge$Voice" (148 : Nat) (-1000000 : Int32))) := wd_m (tb_5 (i := 214) rfl) rfl
set_option maxRecDepth 100000 in
theorem wd_1327 : am_wok (false, (Jvm.Cond.constant "OrderMerge$Voice" (80 : Nat) (-99000001 : Int32))) := wd_m (tb_5 (i := 215) rfl) rfl
set_option maxRecDepth 100000 in
theorem wd_1328 : am_wok (false, (Jvm.Cond.methodLink "OrderMerge$Voice" (84 : Nat) ({ cls := "java/lang/Math", name := "min", desc := "(II)I" } : Jvm.MethodName))) := wd_m (tb_5 (i := 216) rfl) rfl
set_option maxRecDepth 100000 in
theorem wd_1329 : am_wok (false, (Jvm.Cond.constantLong "OrderMerge$Voice" (95 : Nat) (10 : Int64))) := wd_m (tb_5 (i := 217) rfl) rfl
set_option maxRecDepth 100000 in
theorem wd_1330 : am_wok (false, (Jvm.Cond.methodLink "OrderMergeLaw" (129 : Nat) ({ cls := "OrderMerge", name := "through", desc := "(III)I" } : Jvm.MethodName))) := wd_m (tb_5 (i := 218) rfl) rfl
set_option maxRecDepth 100000 in
theorem wd_1331 : am_wok (false, (Jvm.Cond.instanceMethod ({ cls := "OrderMerge", name := "through", desc := "(III)I" } : Jvm.MethodName))) := wd_m (tb_5 (i := 219) rfl) rfl
set_option maxRecDepth 100000 in
theorem wd_1332 : am_wok (false, (Jvm.Cond.selects "OrderMerge" ({ cls := "OrderMerge", name := "through", desc := "(III)I" } : Jvm.MethodName) ({ cls := "OrderMerge", name := "through", desc := "(III)I" } : Jvm.MethodName))) := wd_m (tb_5 (i := 220) rfl) rfl
set_option maxRecDepth 100000 in
theorem wd_1333 : am_wok (false, (Jvm.Cond.code ({ cls := "OrderMerge", name := "through", desc := "(III)I" } : Jvm.MethodName) prog_1_method_41_code (4 : Nat) (Option.some Jvm.ClassFile.FieldType.int))) := wd_m (tb_5 (i := 221) rfl) rfl
set_option maxRecDepth 100000 in
theorem wd_1334 : am_wok (false, (Jvm.Cond.methodLink "OrderMerge" (311 : Nat) ({ cls := "OrderMerge$Voice", name := "trace", desc := "(III)V" } : Jvm.MethodName))) := wd_m (tb_5 (i := 222) rfl) rfl
set_option maxRecDepth 100000 in
theorem wd_1335 : am_wok (false, (Jvm.Cond.methodLink "OrderMerge" (315 : Nat) ({ cls := "OrderMerge$Voice", name := "passed", desc := "(I)I" } : Jvm.MethodName))) := wd_m (tb_5 (i := 223) rfl) rfl
set_option maxRecDepth 100000 in
theorem wd_1336 : am_wok (false, (Jvm.Cond.instanceMethod ({ cls := "OrderMerge$Voice", name := "passed", desc := "(I)I" } : Jvm.MethodName))) := wd_m (tb_5 (i := 224) rfl) rfl
set_option maxRecDepth 100000 in
theorem wd_1337 : am_wok (false, (Jvm.Cond.selects "OrderMerge$Voice" ({ cls := "OrderMerge$Voice", name := "passed", desc := "(I)I" } : Jvm.MethodName) ({ cls := "OrderMerge$Voice", name := "passed", desc := "(I)I" } : Jvm.MethodName))) := wd_m (tb_5 (i := 225) rfl) rfl
set_option maxRecDepth 100000 in
theorem wd_1338 : am_wok (false, (Jvm.Cond.code ({ cls := "OrderMerge$Voice", name := "passed", desc := "(I)I" } : Jvm.MethodName) prog_12_method_3_code (2 : Nat) (Option.some Jvm.ClassFile.FieldType.int))) := wd_m (tb_5 (i := 226) rfl) rfl
set_option maxRecDepth 100000 in
theorem wd_1339 : am_wok (false, (Jvm.Cond.methodLink "OrderMergeLaw" (133 : Nat) ({ cls := "OrderMerge", name := "serves", desc := "(II)I" } : Jvm.MethodName))) := wd_m (tb_5 (i := 227) rfl) rfl
set_option maxRecDepth 100000 in
theorem wd_1340 : am_wok (false, (Jvm.Cond.instanceMethod ({ cls := "OrderMerge", name := "serves", desc := "(II)I" } : Jvm.MethodName))) := wd_m (tb_5 (i := 228) rfl) rfl
set_option maxRecDepth 100000 in
theorem wd_1341 : am_wok (false, (Jvm.Cond.selects "OrderMerge" ({ cls := "OrderMerge", name := "serves", desc := "(II)I" } : Jvm.MethodName) ({ cls := "OrderMerge", name := "serves", desc := "(II)I" } : Jvm.MethodName))) := wd_m (tb_5 (i := 229) rfl) rfl
set_option maxRecDepth 100000 in
theorem wd_1342 : am_wok (false, (Jvm.Cond.code ({ cls := "OrderMerge", name := "serves", desc := "(II)I" } : Jvm.MethodName) prog_1_method_42_code (5 : Nat) (Option.some Jvm.ClassFile.FieldType.int))) := wd_m (tb_5 (i := 230) rfl) rfl
set_option maxRecDepth 100000 in
theorem wd_1343 : am_wok (false, (Jvm.Cond.methodLink "OrderMergeLaw" (137 : Nat) ({ cls := "OrderMerge", name := "dead", desc := "()I" } : Jvm.MethodName))) := wd_m (tb_5 (i := 231) rfl) rfl
set_option maxRecDepth 100000 in
theorem wd_1344 : am_wok (false, (Jvm.Cond.instanceMethod ({ cls := "OrderMerge", name := "dead", desc := "()I" } : Jvm.MethodName))) := wd_m (tb_5 (i := 232) rfl) rfl
set_option maxRecDepth 100000 in
theorem wd_1345 : am_wok (false, (Jvm.Cond.selects "OrderMerge" ({ cls := "OrderMerge", name := "dead", desc := "()I" } : Jvm.MethodName) ({ cls := "OrderMerge", name := "dead", desc := "()I" } : Jvm.MethodName))) := wd_m (tb_5 (i := 233) rfl) rfl
set_option maxRecDepth 100000 in
theorem wd_1346 : am_wok (false, (Jvm.Cond.code ({ cls := "OrderMerge", name := "dead", desc := "()I" } : Jvm.MethodName) prog_1_method_43_code (3 : Nat) (Option.some Jvm.ClassFile.FieldType.int))) := wd_m (tb_5 (i := 234) rfl) rfl
set_option maxRecDepth 100000 in
theorem wd_1347 : am_wok (false, (Jvm.Cond.methodLink "OrderMerge" (318 : Nat) ({ cls := "OrderMerge$Voice", name := "markReached", desc := "()V" } : Jvm.MethodName))) := wd_m (tb_5 (i := 235) rfl) rfl
set_option maxRecDepth 100000 in
theorem wd_1348 : am_wok (false, (Jvm.Cond.instanceMethod ({ cls := "OrderMerge$Voice", name := "markReached", desc := "()V" } : Jvm.MethodName))) := wd_m (tb_5 (i := 236) rfl) rfl
set_option maxRecDepth 100000 in
theorem wd_1349 : am_wok (false, (Jvm.Cond.selects "OrderMerge$Voice" ({ cls := "OrderMerge$Voice", name := "markReached", desc := "()V" } : Jvm.MethodName) ({ cls := "OrderMerge$Voice", name := "markReached", desc := "()V" } : Jvm.MethodName))) := wd_m (tb_5 (i := 237) rfl) rfl
set_option maxRecDepth 100000 in
theorem wd_1350 : am_wok (false, (Jvm.Cond.code ({ cls := "OrderMerge$Voice", name := "markReached", desc := "()V" } : Jvm.MethodName) prog_12_method_6_code (4 : Nat) (Option.none : Option Jvm.ClassFile.FieldType))) := wd_m (tb_5 (i := 238) rfl) rfl
set_option maxRecDepth 100000 in
theorem wd_1351 : am_wok (false, (Jvm.Cond.methodLink "OrderMerge$Voice" (108 : Nat) ({ cls := "java/util/Arrays", name := "fill", desc := "([II)V" } : Jvm.MethodName))) := wd_m (tb_5 (i := 239) rfl) rfl
set_option maxRecDepth 100000 in
theorem wd_1352 : am_wok (false, (Jvm.Cond.methodLink "OrderMerge$Voice" (118 : Nat) ({ cls := "OrderMerge$Voice", name := "passed", desc := "(I)I" } : Jvm.MethodName))) := wd_m (tb_6 (i := 0) rfl) rfl
set_option maxRecDepth 100000 in
theorem wd_1353 : am_wok (false, (Jvm.Cond.methodLink "OrderMerge" (321 : Nat) ({ cls := "OrderMerge$Voice", name := "isDead", desc := "(II)Z" } : Jvm.MethodName))) := wd_m (tb_6 (i := 1) rfl) rfl
set_option maxRecDepth 100000 in
theorem wd_1354 : am_wok (false, (Jvm.Cond.instanceMethod ({ cls := "OrderMerge$Voice", name := "isDead", desc := "(II)Z" } : Jvm.MethodName))) := wd_m (tb_6 (i := 2) rfl) rfl
set_option maxRecDepth 100000 in
theorem wd_1355 : am_wok (false, (Jvm.Cond.selects "OrderMerge$Voice" ({ cls := "OrderMerge$Voice", name := "isDead", desc := "(II)Z" } : Jvm.MethodName) ({ cls := "OrderMerge$Voice", name := "isDead", desc := "(II)Z" } : Jvm.MethodName))) := wd_m (tb_6 (i := 3) rfl) rfl
set_option maxRecDepth 100000 in
theorem wd_1356 : am_wok (false, (Jvm.Cond.code ({ cls := "OrderMerge$Voice", name := "isDead", desc := "(II)Z" } : Jvm.MethodName) prog_12_method_7_code (3 : Nat) (Option.some Jvm.ClassFile.FieldType.boolean))) := wd_m (tb_6 (i := 4) rfl) rfl
set_option maxRecDepth 100000 in
theorem wd_1357 : am_wok (true, (Jvm.Cond.methodLinkNest "OrderMerge$Voice" (121 : Nat) ({ cls := "OrderMerge", name := "isMethod", desc := "(I)Z" } : Jvm.MethodName) "OrderMerge")) := wd_n (tb_6 (i := 5) rfl) rfl
set_option maxRecDepth 100000 in
theorem wd_1358 : am_wok (false, (Jvm.Cond.methodLink "OrderMergeLaw" (142 : Nat) ({ cls := "OrderMerge", name := "firstDead", desc := "()I" } : Jvm.MethodName))) := wd_m (tb_6 (i := 6) rfl) rfl
set_option maxRecDepth 100000 in
theorem wd_1359 : am_wok (false, (Jvm.Cond.instanceMethod ({ cls := "OrderMerge", name := "firstDead", desc := "()I" } : Jvm.MethodName))) := wd_m (tb_6 (i := 7) rfl) rfl
set_option maxRecDepth 100000 in
theorem wd_1360 : am_wok (false, (Jvm.Cond.selects "OrderMerge" ({ cls := "OrderMerge", name := "firstDead", desc := "()I" } : Jvm.MethodName) ({ cls := "OrderMerge", name := "firstDead", desc := "()I" } : Jvm.MethodName))) := wd_m (tb_6 (i := 8) rfl) rfl
set_option maxRecDepth 100000 in
theorem wd_1361 : am_wok (false, (Jvm.Cond.code ({ cls := "OrderMerge", name := "firstDead", desc := "()I" } : Jvm.MethodName) prog_1_method_44_code (2 : Nat) (Option.some Jvm.ClassFile.FieldType.int))) := wd_m (tb_6 (i := 9) rfl) rfl
set_option maxRecDepth 100000 in
theorem wd_1362 : am_wok (false, (Jvm.Cond.methodLink "OrderMergeLaw" (146 : Nat) ({ cls := "OrderMerge", name := "common", desc := "(II)I" } : Jvm.MethodName))) := wd_m (tb_6 (i := 10) rfl) rfl
set_option maxRecDepth 100000 in
theorem wd_1363 : am_wok (false, (Jvm.Cond.instanceMethod ({ cls := "OrderMerge", name := "common", desc := "(II)I" } : Jvm.MethodName))) := wd_m (tb_6 (i := 11) rfl) rfl
set_option maxRecDepth 100000 in
theorem wd_1364 : am_wok (false, (Jvm.Cond.selects "OrderMerge" ({ cls := "OrderMerge", name := "common", desc := "(II)I" } : Jvm.MethodName) ({ cls := "OrderMerge", name := "common", desc := "(II)I" } : Jvm.MethodName))) := wd_m (tb_6 (i := 12) rfl) rfl
set_option maxRecDepth 100000 in
theorem wd_1365 : am_wok (false, (Jvm.Cond.code ({ cls := "OrderMerge", name := "common", desc := "(II)I" } : Jvm.MethodName) prog_1_method_45_code (5 : Nat) (Option.some Jvm.ClassFile.FieldType.int))) := wd_m (tb_6 (i := 13) rfl) rfl
set_option maxRecDepth 100000 in
theorem wd_1366 : am_wok (false, (Jvm.Cond.methodLink "OrderMergeLaw" (150 : Nat) ({ cls := "OrderMerge", name := "would", desc := "(I)I" } : Jvm.MethodName))) := wd_m (tb_6 (i := 14) rfl) rfl
set_option maxRecDepth 100000 in
theorem wd_1367 : am_wok (false, (Jvm.Cond.instanceMethod ({ cls := "OrderMerge", name := "would", desc := "(I)I" } : Jvm.MethodName))) := wd_m (tb_6 (i := 15) rfl) rfl
set_option maxRecDepth 100000 in
theorem wd_1368 : am_wok (false, (Jvm.Cond.selects "OrderMerge" ({ cls := "OrderMerge", name := "would", desc := "(I)I" } : Jvm.MethodName) ({ cls := "OrderMerge", name := "would", desc := "(I)I" } : Jvm.MethodName))) := wd_m (tb_6 (i := 16) rfl) rfl
set_option maxRecDepth 100000 in
theorem wd_1369 : am_wok (false, (Jvm.Cond.code ({ cls := "OrderMerge", name := "would", desc := "(I)I" } : Jvm.MethodName) prog_1_method_46_code (3 : Nat) (Option.some Jvm.ClassFile.FieldType.int))) := wd_m (tb_6 (i := 17) rfl) rfl
set_option maxRecDepth 100000 in
theorem wd_1370 : am_wok (false, (Jvm.Cond.methodLink "OrderMerge" (324 : Nat) ({ cls := "OrderMerge", name := "wouldCode", desc := "(I)I" } : Jvm.MethodName))) := wd_m (tb_6 (i := 18) rfl) rfl
set_option maxRecDepth 100000 in
theorem wd_1372 : am_wok (false, (Jvm.Cond.instanceMethod ({ cls := "OrderMerge", name := "wouldCode", desc := "(I)I" } : Jvm.MethodName))) := wd_m (tb_6 (i := 20) rfl) rfl
set_option maxRecDepth 100000 in
theorem wd_1373 : am_wok (false, (Jvm.Cond.code ({ cls := "OrderMerge", name := "wouldCode", desc := "(I)I" } : Jvm.MethodName) prog_1_method_50_code (8 : Nat) (Option.some Jvm.ClassFile.FieldType.int))) := wd_m (tb_6 (i := 21) rfl) rfl
set_option maxRecDepth 100000 in
theorem wd_1374 : am_wok (false, (Jvm.Cond.methodLink "OrderMerge" (327 : Nat) ({ cls := "OrderMerge$Orders", name := "settle", desc := "(I[II)I" } : Jvm.MethodName))) := wd_m (tb_6 (i := 22) rfl) rfl
set_option maxRecDepth 100000 in
theorem wd_1375 : am_wok (false, (Jvm.Cond.methodLink "OrderMergeLaw" (154 : Nat) ({ cls := "OrderMerge", name := "wouldOrder", desc := "(II)I" } : Jvm.MethodName))) := wd_m (tb_6 (i := 23) rfl) rfl
set_option maxRecDepth 100000 in
theorem wd_1376 : am_wok (false, (Jvm.Cond.instanceMethod ({ cls := "OrderMerge", name := "wouldOrder", desc := "(II)I" } : Jvm.MethodName))) := wd_m (tb_6 (i := 24) rfl) rfl
set_option maxRecDepth 100000 in
theorem wd_1377 : am_wok (false, (Jvm.Cond.selects "OrderMerge" ({ cls := "OrderMerge", name := "wouldOrder", desc := "(II)I" } : Jvm.MethodName) ({ cls := "OrderMerge", name := "wouldOrder", desc := "(II)I" } : Jvm.MethodName))) := wd_m (tb_6 (i := 25) rfl) rfl
set_option maxRecDepth 100000 in
theorem wd_1378 : am_wok (false, (Jvm.Cond.code ({ cls := "OrderMerge", name := "wouldOrder", desc := "(II)I" } : Jvm.MethodName) prog_1_method_47_code (4 : Nat) (Option.some Jvm.ClassFile.FieldType.int))) := wd_m (tb_6 (i := 26) rfl) rfl
set_option maxRecDepth 100000 in
theorem wd_1379 : am_wok (false, (Jvm.Cond.methodLink "OrderMergeLaw" (158 : Nat) ({ cls := "OrderMerge", name := "wouldWays", desc := "(I)I" } : Jvm.MethodName))) := wd_m (tb_6 (i := 27) rfl) rfl
set_option maxRecDepth 100000 in
theorem wd_1380 : am_wok (false, (Jvm.Cond.instanceMethod ({ cls := "OrderMerge", name := "wouldWays", desc := "(I)I" } : Jvm.MethodName))) := wd_m (tb_6 (i := 28) rfl) rfl
set_option maxRecDepth 100000 in
theorem wd_1381 : am_wok (false, (Jvm.Cond.selects "OrderMerge" ({ cls := "OrderMerge", name := "wouldWays", desc := "(I)I" } : Jvm.MethodName) ({ cls := "OrderMerge", name := "wouldWays", desc := "(I)I" } : Jvm.MethodName))) := wd_m (tb_6 (i := 29) rfl) rfl
set_option maxRecDepth 100000 in
theorem wd_1382 : am_wok (false, (Jvm.Cond.code ({ cls := "OrderMerge", name := "wouldWays", desc := "(I)I" } : Jvm.MethodName) prog_1_method_48_code (6 : Nat) (Option.some Jvm.ClassFile.FieldType.int))) := wd_m (tb_6 (i := 30) rfl) rfl
set_option maxRecDepth 100000 in
theorem wd_1383 : am_wok (false, (Jvm.Cond.methodLink "OrderMerge" (331 : Nat) ({ cls := "OrderMerge", name := "turnTold", desc := "(II)Z" } : Jvm.MethodName))) := wd_m (tb_6 (i := 31) rfl) rfl
set_option maxRecDepth 100000 in
theorem wd_1385 : am_wok (false, (Jvm.Cond.instanceMethod ({ cls := "OrderMerge", name := "turnTold", desc := "(II)Z" } : Jvm.MethodName))) := wd_m (tb_6 (i := 33) rfl) rfl
set_option maxRecDepth 100000 in
theorem wd_1386 : am_wok (false, (Jvm.Cond.code ({ cls := "OrderMerge", name := "turnTold", desc := "(II)Z" } : Jvm.MethodName) prog_1_method_49_code (6 : Nat) (Option.some Jvm.ClassFile.FieldType.boolean))) := wd_m (tb_6 (i := 34) rfl) rfl
set_option maxRecDepth 100000 in
theorem wd_1387 : am_wok (false, (Jvm.Cond.methodLink "OrderMergeLaw" (162 : Nat) ({ cls := "OrderMerge", name := "repairs", desc := "()I" } : Jvm.MethodName))) := wd_m (tb_6 (i := 35) rfl) rfl
set_option maxRecDepth 100000 in
theorem wd_1388 : am_wok (false, (Jvm.Cond.instanceMethod ({ cls := "OrderMerge", name := "repairs", desc := "()I" } : Jvm.MethodName))) := wd_m (tb_6 (i := 36) rfl) rfl
set_option maxRecDepth 100000 in
theorem wd_1389 : am_wok (false, (Jvm.Cond.selects "OrderMerge" ({ cls := "OrderMerge", name := "repairs", desc := "()I" } : Jvm.MethodName) ({ cls := "OrderMerge", name := "repairs", desc := "()I" } : Jvm.MethodName))) := wd_m (tb_6 (i := 37) rfl) rfl
set_option maxRecDepth 100000 in
theorem wd_1390 : am_wok (false, (Jvm.Cond.code ({ cls := "OrderMerge", name := "repairs", desc := "()I" } : Jvm.MethodName) prog_1_method_51_code (1 : Nat) (Option.some Jvm.ClassFile.FieldType.int))) := wd_m (tb_6 (i := 38) rfl) rfl
set_option maxRecDepth 100000 in
theorem wd_1391 : am_wok (false, (Jvm.Cond.methodLink "OrderMerge" (334 : Nat) ({ cls := "OrderMerge$Mender", name := "learn", desc := "(LOrderMerge$Facts;)V" } : Jvm.MethodName))) := wd_m (tb_6 (i := 39) rfl) rfl
set_option maxRecDepth 100000 in
theorem wd_1392 : am_wok (false, (Jvm.Cond.instanceMethod ({ cls := "OrderMerge$Mender", name := "learn", desc := "(LOrderMerge$Facts;)V" } : Jvm.MethodName))) := wd_m (tb_6 (i := 40) rfl) rfl
set_option maxRecDepth 100000 in
theorem wd_1393 : am_wok (false, (Jvm.Cond.selects "OrderMerge$Mender" ({ cls := "OrderMerge$Mender", name := "learn", desc := "(LOrderMerge$Facts;)V" } : Jvm.MethodName) ({ cls := "OrderMerge$Mender", name := "learn", desc := "(LOrderMerge$Facts;)V" } : Jvm.MethodName))) := wd_m (tb_6 (i := 41) rfl) rfl
set_option maxRecDepth 100000 in
theorem wd_1394 : am_wok (false, (Jvm.Cond.code ({ cls := "OrderMerge$Mender", name := "learn", desc := "(LOrderMerge$Facts;)V" } : Jvm.MethodName) prog_6_method_2_code (3 : Nat) (Option.none : Option Jvm.ClassFile.FieldType))) := wd_m (tb_6 (i := 42) rfl) rfl
set_option maxRecDepth 100000 in
theorem wd_1395 : am_wok (false, (Jvm.Cond.methodLink "OrderMerge$Mender" (33 : Nat) ({ cls := "OrderMerge$Mender", name := "mendFrom", desc := "(LOrderMerge$Facts;II)Z" } : Jvm.MethodName))) := wd_m (tb_6 (i := 43) rfl) rfl
set_option maxRecDepth 100000 in
theorem wd_1397 : am_wok (false, (Jvm.Cond.instanceMethod ({ cls := "OrderMerge$Mender", name := "mendFrom", desc := "(LOrderMerge$Facts;II)Z" } : Jvm.MethodName))) := wd_m (tb_6 (i := 45) rfl) rfl
set_option maxRecDepth 100000 in
theorem wd_1398 : am_wok (false, (Jvm.Cond.code ({ cls := "OrderMerge$Mender", name := "mendFrom", desc := "(LOrderMerge$Facts;II)Z" } : Jvm.MethodName) prog_6_method_4_code (8 : Nat) (Option.some Jvm.ClassFile.FieldType.boolean))) := wd_m (tb_6 (i := 46) rfl) rfl
set_option maxRecDepth 100000 in
theorem wd_1399 : am_wok (false, (Jvm.Cond.methodLink "OrderMerge$Mender" (46 : Nat) ({ cls := "OrderMerge$Facts", name := "parentCount", desc := "(I)I" } : Jvm.MethodName))) := wd_m (tb_6 (i := 47) rfl) rfl
set_option maxRecDepth 100000 in
theorem wd_1400 : am_wok (false, (Jvm.Cond.methodLink "OrderMerge$Mender" (50 : Nat) ({ cls := "java/lang/Math", name := "min", desc := "(II)I" } : Jvm.MethodName))) := wd_m (tb_6 (i := 48) rfl) rfl
set_option maxRecDepth 100000 in
theorem wd_1401 : am_wok (false, (Jvm.Cond.methodLink "OrderMerge$Mender" (56 : Nat) ({ cls := "java/lang/Integer", name := "bitCount", desc := "(I)I" } : Jvm.MethodName))) := wd_m (tb_6 (i := 49) rfl) rfl
set_option maxRecDepth 100000 in
theorem wd_1402 : am_wok (false, (Jvm.Cond.methodLink "OrderMerge$Mender" (61 : Nat) ({ cls := "OrderMerge$Mender", name := "placesOf", desc := "(II)I" } : Jvm.MethodName))) := wd_m (tb_6 (i := 50) rfl) rfl
set_option maxRecDepth 100000 in
theorem wd_1403 : am_wok (false, (Jvm.Cond.static ({ cls := "OrderMerge$Mender", name := "placesOf", desc := "(II)I" } : Jvm.MethodName))) := wd_m (tb_6 (i := 51) rfl) rfl
set_option maxRecDepth 100000 in
theorem wd_1404 : am_wok (false, (Jvm.Cond.code ({ cls := "OrderMerge$Mender", name := "placesOf", desc := "(II)I" } : Jvm.MethodName) prog_6_method_5_code (4 : Nat) (Option.some Jvm.ClassFile.FieldType.int))) := wd_m (tb_6 (i := 52) rfl) rfl
set_option maxRecDepth 100000 in
theorem wd_1405 : am_wok (false, (Jvm.Cond.methodLink "OrderMerge$Mender" (64 : Nat) ({ cls := "OrderMerge$Orders", name := "settleWithout", desc := "(LOrderMerge$Facts;II)I" } : Jvm.MethodName))) := wd_m (tb_6 (i := 53) rfl) rfl
set_option maxRecDepth 100000 in
theorem wd_1406 : am_wok (false, (Jvm.Cond.instanceMethod ({ cls := "OrderMerge$Orders", name := "settleWithout", desc := "(LOrderMerge$Facts;II)I" } : Jvm.MethodName))) := wd_m (tb_6 (i := 54) rfl) rfl
set_option maxRecDepth 100000 in
theorem wd_1407 : am_wok (false, (Jvm.Cond.selects "OrderMerge$Orders" ({ cls := "OrderMerge$Orders", name := "settleWithout", desc := "(LOrderMerge$Facts;II)I" } : Jvm.MethodName) ({ cls := "OrderMerge$Orders", name := "settleWithout", desc := "(LOrderMerge$Facts;II)I" } : Jvm.MethodName))) := wd_m (tb_6 (i := 55) rfl) rfl
set_option maxRecDepth 100000 in
theorem wd_1408 : am_wok (false, (Jvm.Cond.code ({ cls := "OrderMerge$Orders", name := "settleWithout", desc := "(LOrderMerge$Facts;II)I" } : Jvm.MethodName) prog_8_method_9_code (4 : Nat) (Option.some Jvm.ClassFile.FieldType.int))) := wd_m (tb_6 (i := 56) rfl) rfl
set_option maxRecDepth 100000 in
theorem wd_1409 : am_wok (false, (Jvm.Cond.methodLink "OrderMerge$Mender" (37 : Nat) ({ cls := "OrderMerge$Mender", name := "noteLinks", desc := "(LOrderMerge$Facts;)V" } : Jvm.MethodName))) := wd_m (tb_6 (i := 57) rfl) rfl
set_option maxRecDepth 100000 in
theorem wd_1411 : am_wok (false, (Jvm.Cond.instanceMethod ({ cls := "OrderMerge$Mender", name := "noteLinks", desc := "(LOrderMerge$Facts;)V" } : Jvm.MethodName))) := wd_m (tb_6 (i := 59) rfl) rfl
set_option maxRecDepth 100000 in
theorem wd_1412 : am_wok (false, (Jvm.Cond.code ({ cls := "OrderMerge$Mender", name := "noteLinks", desc := "(LOrderMerge$Facts;)V" } : Jvm.MethodName) prog_6_method_6_code (5 : Nat) (Option.none : Option Jvm.ClassFile.FieldType))) := wd_m (tb_6 (i := 60) rfl) rfl
set_option maxRecDepth 100000 in
theorem wd_1413 : am_wok (false, (Jvm.Cond.methodLink "OrderMerge$Mender" (68 : Nat) ({ cls := "OrderMerge$Facts", name := "parentAt", desc := "(II)I" } : Jvm.MethodName))) := wd_m (tb_6 (i := 61) rfl) rfl
set_option maxRecDepth 100000 in
theorem wd_1414 : am_wok (false, (Jvm.Cond.methodLink "OrderMergeLaw" (166 : Nat) ({ cls := "OrderMerge", name := "repair", desc := "(I)I" } : Jvm.MethodName))) := wd_m (tb_6 (i := 62) rfl) rfl
set_option maxRecDepth 100000 in
theorem wd_1415 : am_wok (false, (Jvm.Cond.instanceMethod ({ cls := "OrderMerge", name := "repair", desc := "(I)I" } : Jvm.MethodName))) := wd_m (tb_6 (i := 63) rfl) rfl
set_option maxRecDepth 100000 in
theorem wd_1416 : am_wok (false, (Jvm.Cond.selects "OrderMerge" ({ cls := "OrderMerge", name := "repair", desc := "(I)I" } : Jvm.MethodName) ({ cls := "OrderMerge", name := "repair", desc := "(I)I" } : Jvm.MethodName))) := wd_m (tb_6 (i := 64) rfl) rfl
set_option maxRecDepth 100000 in
theorem wd_1417 : am_wok (false, (Jvm.Cond.code ({ cls := "OrderMerge", name := "repair", desc := "(I)I" } : Jvm.MethodName) prog_1_method_52_code (2 : Nat) (Option.some Jvm.ClassFile.FieldType.int))) := wd_m (tb_6 (i := 65) rfl) rfl
set_option maxRecDepth 100000 in
theorem wd_1418 : am_wok (false, (Jvm.Cond.methodLink "OrderMerge" (340 : Nat) ({ cls := "OrderMerge$Mender", name := "linkAt", desc := "(I)I" } : Jvm.MethodName))) := wd_m (tb_6 (i := 66) rfl) rfl
set_option maxRecDepth 100000 in
theorem wd_1419 : am_wok (false, (Jvm.Cond.instanceMethod ({ cls := "OrderMerge$Mender", name := "linkAt", desc := "(I)I" } : Jvm.MethodName))) := wd_m (tb_6 (i := 67) rfl) rfl
set_option maxRecDepth 100000 in
theorem wd_1420 : am_wok (false, (Jvm.Cond.selects "OrderMerge$Mender" ({ cls := "OrderMerge$Mender", name := "linkAt", desc := "(I)I" } : Jvm.MethodName) ({ cls := "OrderMerge$Mender", name := "linkAt", desc := "(I)I" } : Jvm.MethodName))) := wd_m (tb_6 (i := 68) rfl) rfl
set_option maxRecDepth 100000 in
theorem wd_1421 : am_wok (false, (Jvm.Cond.code ({ cls := "OrderMerge$Mender", name := "linkAt", desc := "(I)I" } : Jvm.MethodName) prog_6_method_3_code (2 : Nat) (Option.some Jvm.ClassFile.FieldType.int))) := wd_m (tb_6 (i := 69) rfl) rfl
set_option maxRecDepth 100000 in
theorem wd_1422 : am_wok (false, (Jvm.Cond.methodLink "OrderMergeLaw" (170 : Nat) ({ cls := "OrderMerge", name := "moods", desc := "(I)I" } : Jvm.MethodName))) := wd_m (tb_6 (i := 70) rfl) rfl
set_option maxRecDepth 100000 in
theorem wd_1423 : am_wok (false, (Jvm.Cond.instanceMethod ({ cls := "OrderMerge", name := "moods", desc := "(I)I" } : Jvm.MethodName))) := wd_m (tb_6 (i := 71) rfl) rfl
set_option maxRecDepth 100000 in
theorem wd_1424 : am_wok (false, (Jvm.Cond.selects "OrderMerge" ({ cls := "OrderMerge", name := "moods", desc := "(I)I" } : Jvm.MethodName) ({ cls := "OrderMerge", name := "moods", desc := "(I)I" } : Jvm.MethodName))) := wd_m (tb_6 (i := 72) rfl) rfl
set_option maxRecDepth 100000 in
theorem wd_1425 : am_wok (false, (Jvm.Cond.code ({ cls := "OrderMerge", name := "moods", desc := "(I)I" } : Jvm.MethodName) prog_1_method_53_code (3 : Nat) (Option.some Jvm.ClassFile.FieldType.int))) := wd_m (tb_6 (i := 73) rfl) rfl
set_option maxRecDepth 100000 in
theorem wd_1426 : am_wok (false, (Jvm.Cond.methodLink "OrderMerge" (343 : Nat) ({ cls := "OrderMerge", name := "toldCode", desc := "(I)I" } : Jvm.MethodName))) := wd_m (tb_6 (i := 74) rfl) rfl
set_option maxRecDepth 100000 in
theorem wd_1428 : am_wok (false, (Jvm.Cond.instanceMethod ({ cls := "OrderMerge", name := "toldCode", desc := "(I)I" } : Jvm.MethodName))) := wd_m (tb_6 (i := 76) rfl) rfl
set_option maxRecDepth 100000 in
theorem wd_1429 : am_wok (false, (Jvm.Cond.code ({ cls := "OrderMerge", name := "toldCode", desc := "(I)I" } : Jvm.MethodName) prog_1_method_55_code (5 : Nat) (Option.some Jvm.ClassFile.FieldType.int))) := wd_m (tb_6 (i := 77) rfl) rfl
set_option maxRecDepth 100000 in
theorem wd_1430 : am_wok (false, (Jvm.Cond.methodLink "OrderMerge" (352 : Nat) ({ cls := "OrderMerge", name := "canBeTold", desc := "(J)Z" } : Jvm.MethodName))) := wd_m (tb_6 (i := 78) rfl) rfl
set_option maxRecDepth 100000 in
theorem wd_1432 : am_wok (false, (Jvm.Cond.instanceMethod ({ cls := "OrderMerge", name := "canBeTold", desc := "(J)Z" } : Jvm.MethodName))) := wd_m (tb_6 (i := 80) rfl) rfl
set_option maxRecDepth 100000 in
theorem wd_1433 : am_wok (false, (Jvm.Cond.code ({ cls := "OrderMerge", name := "canBeTold", desc := "(J)Z" } : Jvm.MethodName) prog_1_method_56_code (5 : Nat) (Option.some Jvm.ClassFile.FieldType.boolean))) := wd_m (tb_6 (i := 81) rfl) rfl
set_option maxRecDepth 100000 in
theorem wd_1434 : am_wok (false, (Jvm.Cond.constantLong "OrderMerge" (356 : Nat) (10000000 : Int64))) := wd_m (tb_6 (i := 82) rfl) rfl
set_option maxRecDepth 100000 in
theorem wd_1435 : am_wok (false, (Jvm.Cond.constantLong "OrderMerge" (358 : Nat) (100000 : Int64))) := wd_m (tb_6 (i := 83) rfl) rfl
set_option maxRecDepth 100000 in
theorem wd_1436 : am_wok (false, (Jvm.Cond.constantLong "OrderMerge" (360 : Nat) (100 : Int64))) := wd_m (tb_6 (i := 84) rfl) rfl
set_option maxRecDepth 100000 in
theorem wd_1437 : am_wok (false, (Jvm.Cond.constantLong "OrderMerge" (362 : Nat) (8 : Int64))) := wd_m (tb_6 (i := 85) rfl) rfl
set_option maxRecDepth 100000 in
theorem wd_1438 : am_wok (false, (Jvm.Cond.methodLink "OrderMerge" (346 : Nat) ({ cls := "OrderMerge", name := "moodsOf", desc := "(LOrderMerge$Tray;)I" } : Jvm.MethodName))) := wd_m (tb_6 (i := 86) rfl) rfl
set_option maxRecDepth 100000 in
theorem wd_1440 : am_wok (false, (Jvm.Cond.instanceMethod ({ cls := "OrderMerge", name := "moodsOf", desc := "(LOrderMerge$Tray;)I" } : Jvm.MethodName))) := wd_m (tb_6 (i := 88) rfl) rfl
set_option maxRecDepth 100000 in
theorem wd_1441 : am_wok (false, (Jvm.Cond.code ({ cls := "OrderMerge", name := "moodsOf", desc := "(LOrderMerge$Tray;)I" } : Jvm.MethodName) prog_1_method_57_code (9 : Nat) (Option.some Jvm.ClassFile.FieldType.int))) := wd_m (tb_6 (i := 89) rfl) rfl
set_option maxRecDepth 100000 in
theorem wd_1442 : am_wok (false, (Jvm.Cond.constantLong "OrderMerge" (364 : Nat) (50000 : Int64))) := wd_m (tb_6 (i := 90) rfl) rfl
set_option maxRecDepth 100000 in
theorem wd_1443 : am_wok (false, (Jvm.Cond.methodLink "OrderMergeLaw" (174 : Nat) ({ cls := "OrderMerge", name := "attempt", desc := "(I)I" } : Jvm.MethodName))) := wd_m (tb_6 (i := 91) rfl) rfl
set_option maxRecDepth 100000 in
theorem wd_1444 : am_wok (false, (Jvm.Cond.instanceMethod ({ cls := "OrderMerge", name := "attempt", desc := "(I)I" } : Jvm.MethodName))) := wd_m (tb_6 (i := 92) rfl) rfl
set_option maxRecDepth 100000 in
theorem wd_1445 : am_wok (false, (Jvm.Cond.selects "OrderMerge" ({ cls := "OrderMerge", name := "attempt", desc := "(I)I" } : Jvm.MethodName) ({ cls := "OrderMerge", name := "attempt", desc := "(I)I" } : Jvm.MethodName))) := wd_m (tb_6 (i := 93) rfl) rfl
set_option maxRecDepth 100000 in
theorem wd_1446 : am_wok (false, (Jvm.Cond.code ({ cls := "OrderMerge", name := "attempt", desc := "(I)I" } : Jvm.MethodName) prog_1_method_54_code (9 : Nat) (Option.some Jvm.ClassFile.FieldType.int))) := wd_m (tb_6 (i := 94) rfl) rfl
set_option maxRecDepth 100000 in
theorem wd_1447 : am_wok (false, (Jvm.Cond.methodLink "OrderMerge" (349 : Nat) ({ cls := "OrderMerge$Voice", name := "mostAlike", desc := "(III)I" } : Jvm.MethodName))) := wd_m (tb_6 (i := 95) rfl) rfl
set_option maxRecDepth 100000 in
theorem wd_1448 : am_wok (false, (Jvm.Cond.instanceMethod ({ cls := "OrderMerge$Voice", name := "mostAlike", desc := "(III)I" } : Jvm.MethodName))) := wd_m (tb_6 (i := 96) rfl) rfl
set_option maxRecDepth 100000 in
theorem wd_1449 : am_wok (false, (Jvm.Cond.selects "OrderMerge$Voice" ({ cls := "OrderMerge$Voice", name := "mostAlike", desc := "(III)I" } : Jvm.MethodName) ({ cls := "OrderMerge$Voice", name := "mostAlike", desc := "(III)I" } : Jvm.MethodName))) := wd_m (tb_6 (i := 97) rfl) rfl
set_option maxRecDepth 100000 in
theorem wd_1450 : am_wok (false, (Jvm.Cond.code ({ cls := "OrderMerge$Voice", name := "mostAlike", desc := "(III)I" } : Jvm.MethodName) prog_12_method_5_code (9 : Nat) (Option.some Jvm.ClassFile.FieldType.int))) := wd_m (tb_6 (i := 98) rfl) rfl
set_option maxRecDepth 100000 in
theorem wd_1451 : am_wok (false, (Jvm.Cond.methodLink "OrderMerge$Voice" (101 : Nat) ({ cls := "OrderMerge$Voice", name := "answer", desc := "(III)I" } : Jvm.MethodName))) := wd_m (tb_6 (i := 99) rfl) rfl
set_option maxRecDepth 100000 in
theorem wd_1452 : am_wok (false, (Jvm.Cond.methodLink "OrderMerge$Voice" (105 : Nat) ({ cls := "java/lang/Math", name := "max", desc := "(II)I" } : Jvm.MethodName))) := wd_m (tb_6 (i := 100) rfl) rfl
set_option maxRecDepth 100000 in
theorem wd_1453 : am_wok (false, (Jvm.Cond.methodLink "OrderMergeLaw" (178 : Nat) ({ cls := "OrderMerge", name := "chance", desc := "(II)I" } : Jvm.MethodName))) := wd_m (tb_6 (i := 101) rfl) rfl
set_option maxRecDepth 100000 in
theorem wd_1454 : am_wok (false, (Jvm.Cond.instanceMethod ({ cls := "OrderMerge", name := "chance", desc := "(II)I" } : Jvm.MethodName))) := wd_m (tb_6 (i := 102) rfl) rfl
set_option maxRecDepth 100000 in
theorem wd_1455 : am_wok (false, (Jvm.Cond.selects "OrderMerge" ({ cls := "OrderMerge", name := "chance", desc := "(II)I" } : Jvm.MethodName) ({ cls := "OrderMerge", name := "chance", desc := "(II)I" } : Jvm.MethodName))) := wd_m (tb_6 (i := 103) rfl) rfl
set_option maxRecDepth 100000 in
theorem wd_1456 : am_wok (false, (Jvm.Cond.code ({ cls := "OrderMerge", name := "chance", desc := "(II)I" } : Jvm.MethodName) prog_1_method_58_code (4 : Nat) (Option.some Jvm.ClassFile.FieldType.int))) := wd_m (tb_6 (i := 104) rfl) rfl
set_option maxRecDepth 100000 in
theorem wd_1457 : am_wok (false, (Jvm.Cond.methodLink "OrderMerge" (366 : Nat) ({ cls := "OrderMerge", name := "lotsCode", desc := "(II)I" } : Jvm.MethodName))) := wd_m (tb_6 (i := 105) rfl) rfl
set_option maxRecDepth 100000 in
theorem wd_1458 : am_wok (false, (Jvm.Cond.static ({ cls := "OrderMerge", name := "lotsCode", desc := "(II)I" } : Jvm.MethodName))) := wd_m (tb_6 (i := 106) rfl) rfl
set_option maxRecDepth 100000 in
theorem wd_1459 : am_wok (false, (Jvm.Cond.code ({ cls := "OrderMerge", name := "lotsCode", desc := "(II)I" } : Jvm.MethodName) prog_1_method_60_code (2 : Nat) (Option.some Jvm.ClassFile.FieldType.int))) := wd_m (tb_6 (i := 107) rfl) rfl
set_option maxRecDepth 100000 in
theorem wd_1460 : am_wok (false, (Jvm.Cond.methodLink "OrderMerge" (369 : Nat) ({ cls := "OrderMerge$Lots", name := "learn", desc := "(LOrderMerge$Facts;I)V" } : Jvm.MethodName))) := wd_m (tb_6 (i := 108) rfl) rfl
set_option maxRecDepth 100000 in
theorem wd_1461 : am_wok (false, (Jvm.Cond.instanceMethod ({ cls := "OrderMerge$Lots", name := "learn", desc := "(LOrderMerge$Facts;I)V" } : Jvm.MethodName))) := wd_m (tb_6 (i := 109) rfl) rfl
set_option maxRecDepth 100000 in
theorem wd_1462 : am_wok (false, (Jvm.Cond.selects "OrderMerge$Lots" ({ cls := "OrderMerge$Lots", name := "learn", desc := "(LOrderMerge$Facts;I)V" } : Jvm.MethodName) ({ cls := "OrderMerge$Lots", name := "learn", desc := "(LOrderMerge$Facts;I)V" } : Jvm.MethodName))) := wd_m (tb_6 (i := 110) rfl) rfl
set_option maxRecDepth 100000 in
theorem wd_1463 : am_wok (false, (Jvm.Cond.code ({ cls := "OrderMerge$Lots", name := "learn", desc := "(LOrderMerge$Facts;I)V" } : Jvm.MethodName) prog_5_method_2_code (5 : Nat) (Option.none : Option Jvm.ClassFile.FieldType))) := wd_m (tb_6 (i := 111) rfl) rfl
set_option maxRecDepth 100000 in
theorem wd_1464 : am_wok (false, (Jvm.Cond.methodLink "OrderMerge$Lots" (26 : Nat) ({ cls := "OrderMerge$Lots", name := "tally", desc := "(I)V" } : Jvm.MethodName))) := wd_m (tb_6 (i := 112) rfl) rfl
set_option maxRecDepth 100000 in
theorem wd_1466 : am_wok (false, (Jvm.Cond.instanceMethod ({ cls := "OrderMerge$Lots", name := "tally", desc := "(I)V" } : Jvm.MethodName))) := wd_m (tb_6 (i := 114) rfl) rfl
set_option maxRecDepth 100000 in
theorem wd_1467 : am_wok (false, (Jvm.Cond.code ({ cls := "OrderMerge$Lots", name := "tally", desc := "(I)V" } : Jvm.MethodName) prog_5_method_3_code (6 : Nat) (Option.none : Option Jvm.ClassFile.FieldType))) := wd_m (tb_6 (i := 115) rfl) rfl
set_option maxRecDepth 100000 in
theorem wd_1468 : am_wok (false, (Jvm.Cond.methodLink "OrderMerge$Lots" (45 : Nat) ({ cls := "java/util/Arrays", name := "fill", desc := "([II)V" } : Jvm.MethodName))) := wd_m (tb_6 (i := 116) rfl) rfl
set_option maxRecDepth 100000 in
theorem wd_1469 : am_wok (false, (Jvm.Cond.methodLink "OrderMerge$Lots" (36 : Nat) ({ cls := "OrderMerge$Lots", name := "orderedIf", desc := "(LOrderMerge$Facts;I)I" } : Jvm.MethodName))) := wd_m (tb_6 (i := 117) rfl) rfl
set_option maxRecDepth 100000 in
theorem wd_1471 : am_wok (false, (Jvm.Cond.instanceMethod ({ cls := "OrderMerge$Lots", name := "orderedIf", desc := "(LOrderMerge$Facts;I)I" } : Jvm.MethodName))) := wd_m (tb_6 (i := 119) rfl) rfl
set_option maxRecDepth 100000 in
theorem wd_1472 : am_wok (false, (Jvm.Cond.code ({ cls := "OrderMerge$Lots", name := "orderedIf", desc := "(LOrderMerge$Facts;I)I" } : Jvm.MethodName) prog_5_method_4_code (6 : Nat) (Option.some Jvm.ClassFile.FieldType.int))) := wd_m (tb_6 (i := 120) rfl) rfl
set_option maxRecDepth 100000 in
theorem wd_1473 : am_wok (false, (Jvm.Cond.methodLink "OrderMerge$Lots" (54 : Nat) ({ cls := "OrderMerge$Orders", name := "settleSwapped", desc := "(LOrderMerge$Facts;I)I" } : Jvm.MethodName))) := wd_m (tb_6 (i := 121) rfl) rfl
set_option maxRecDepth 100000 in
theorem wd_1474 : am_wok (false, (Jvm.Cond.instanceMethod ({ cls := "OrderMerge$Orders", name := "settleSwapped", desc := "(LOrderMerge$Facts;I)I" } : Jvm.MethodName))) := wd_m (tb_6 (i := 122) rfl) rfl
set_option maxRecDepth 100000 in
theorem wd_1475 : am_wok (false, (Jvm.Cond.selects "OrderMerge$Orders" ({ cls := "OrderMerge$Orders", name := "settleSwapped", desc := "(LOrderMerge$Facts;I)I" } : Jvm.MethodName) ({ cls := "OrderMerge$Orders", name := "settleSwapped", desc := "(LOrderMerge$Facts;I)I" } : Jvm.MethodName))) := wd_m (tb_6 (i := 123) rfl) rfl
set_option maxRecDepth 100000 in
theorem wd_1476 : am_wok (false, (Jvm.Cond.code ({ cls := "OrderMerge$Orders", name := "settleSwapped", desc := "(LOrderMerge$Facts;I)I" } : Jvm.MethodName) prog_8_method_10_code (5 : Nat) (Option.some Jvm.ClassFile.FieldType.int))) := wd_m (tb_6 (i := 124) rfl) rfl
set_option maxRecDepth 100000 in
theorem wd_1477 : am_wok (false, (Jvm.Cond.methodLink "OrderMerge$Lots" (57 : Nat) ({ cls := "OrderMerge$Orders", name := "settleWithout", desc := "(LOrderMerge$Facts;II)I" } : Jvm.MethodName))) := wd_m (tb_6 (i := 125) rfl) rfl
set_option maxRecDepth 100000 in
theorem wd_1478 : am_wok (false, (Jvm.Cond.methodLink "OrderMerge" (377 : Nat) ({ cls := "OrderMerge", name := "inLowestTerms", desc := "(III)I" } : Jvm.MethodName))) := wd_m (tb_6 (i := 126) rfl) rfl
set_option maxRecDepth 100000 in
theorem wd_1479 : am_wok (false, (Jvm.Cond.static ({ cls := "OrderMerge", name := "inLowestTerms", desc := "(III)I" } : Jvm.MethodName))) := wd_m (tb_6 (i := 127) rfl) rfl
set_option maxRecDepth 100000 in
theorem wd_1480 : am_wok (false, (Jvm.Cond.code ({ cls := "OrderMerge", name := "inLowestTerms", desc := "(III)I" } : Jvm.MethodName) prog_1_method_61_code (7 : Nat) (Option.some Jvm.ClassFile.FieldType.int))) := wd_m (tb_6 (i := 128) rfl) rfl
set_option maxRecDepth 100000 in
theorem wd_1481 : am_wok (false, (Jvm.Cond.methodLink "OrderMergeLaw" (182 : Nat) ({ cls := "OrderMerge", name := "mean", desc := "(II)I" } : Jvm.MethodName))) := wd_m (tb_6 (i := 129) rfl) rfl
set_option maxRecDepth 100000 in
theorem wd_1482 : am_wok (false, (Jvm.Cond.instanceMethod ({ cls := "OrderMerge", name := "mean", desc := "(II)I" } : Jvm.MethodName))) := wd_m (tb_6 (i := 130) rfl) rfl
set_option maxRecDepth 100000 in
theorem wd_1483 : am_wok (false, (Jvm.Cond.selects "OrderMerge" ({ cls := "OrderMerge", name := "mean", desc := "(II)I" } : Jvm.MethodName) ({ cls := "OrderMerge", name := "mean", desc := "(II)I" } : Jvm.MethodName))) := wd_m (tb_6 (i := 131) rfl) rfl
set_option maxRecDepth 100000 in
theorem wd_1484 : am_wok (false, (Jvm.Cond.code ({ cls := "OrderMerge", name := "mean", desc := "(II)I" } : Jvm.MethodName) prog_1_method_59_code (4 : Nat) (Option.some Jvm.ClassFile.FieldType.int))) := wd_m (tb_6 (i := 132) rfl) rfl
set_option maxRecDepth 100000 in
theorem wd_1485 : am_wok (false, (Jvm.Cond.methodLink "OrderMergeLaw" (186 : Nat) ({ cls := "OrderMerge", name := "numbers", desc := "(III)I" } : Jvm.MethodName))) := wd_m (tb_6 (i := 133) rfl) rfl
set_option maxRecDepth 100000 in
theorem wd_1486 : am_wok (false, (Jvm.Cond.instanceMethod ({ cls := "OrderMerge", name := "numbers", desc := "(III)I" } : Jvm.MethodName))) := wd_m (tb_6 (i := 134) rfl) rfl
set_option maxRecDepth 100000 in
theorem wd_1487 : am_wok (false, (Jvm.Cond.selects "OrderMerge" ({ cls := "OrderMerge", name := "numbers", desc := "(III)I" } : Jvm.MethodName) ({ cls := "OrderMerge", name := "numbers", desc := "(III)I" } : Jvm.MethodName))) := wd_m (tb_6 (i := 135) rfl) rfl
set_option maxRecDepth 100000 in
theorem wd_1488 : am_wok (false, (Jvm.Cond.code ({ cls := "OrderMerge", name := "numbers", desc := "(III)I" } : Jvm.MethodName) prog_1_method_62_code (4 : Nat) (Option.some Jvm.ClassFile.FieldType.int))) := wd_m (tb_6 (i := 136) rfl) rfl
set_option maxRecDepth 100000 in
theorem wd_1489 : am_wok (false, (Jvm.Cond.methodLink "OrderMerge" (383 : Nat) ({ cls := "OrderMerge$Tray", name := "begin", desc := "(II)V" } : Jvm.MethodName))) := wd_m (tb_6 (i := 137) rfl) rfl
set_option maxRecDepth 100000 in
theorem wd_1490 : am_wok (false, (Jvm.Cond.instanceMethod ({ cls := "OrderMerge$Tray", name := "begin", desc := "(II)V" } : Jvm.MethodName))) := wd_m (tb_6 (i := 138) rfl) rfl
set_option maxRecDepth 100000 in
theorem wd_1491 : am_wok (false, (Jvm.Cond.selects "OrderMerge$Tray" ({ cls := "OrderMerge$Tray", name := "begin", desc := "(II)V" } : Jvm.MethodName) ({ cls := "OrderMerge$Tray", name := "begin", desc := "(II)V" } : Jvm.MethodName))) := wd_m (tb_6 (i := 139) rfl) rfl
set_option maxRecDepth 100000 in
theorem wd_1492 : am_wok (false, (Jvm.Cond.code ({ cls := "OrderMerge$Tray", name := "begin", desc := "(II)V" } : Jvm.MethodName) prog_11_method_3_code (3 : Nat) (Option.none : Option Jvm.ClassFile.FieldType))) := wd_m (tb_6 (i := 140) rfl) rfl
set_option maxRecDepth 100000 in
theorem wd_1493 : am_wok (false, (Jvm.Cond.methodLink "OrderMerge$Tray" (22 : Nat) ({ cls := "java/util/Arrays", name := "fill", desc := "([JJ)V" } : Jvm.MethodName))) := wd_m (tb_6 (i := 141) rfl) rfl
set_option maxRecDepth 100000 in
theorem wd_1494 : am_wok (false, (Jvm.Cond.static ({ cls := "java/util/Arrays", name := "fill", desc := "([JJ)V" } : Jvm.MethodName))) := wd_m (tb_6 (i := 142) rfl) rfl
set_option maxRecDepth 100000 in
theorem wd_1495 : am_wok (false, (Jvm.Cond.code ({ cls := "java/util/Arrays", name := "fill", desc := "([JJ)V" } : Jvm.MethodName) prog_23_method_101_code (5 : Nat) (Option.none : Option Jvm.ClassFile.FieldType))) := wd_m (tb_6 (i := 143) rfl) rfl
set_option maxRecDepth 100000 in
theorem wd_1496 : am_wok (false, (Jvm.Cond.methodLink "OrderMergeLaw" (192 : Nat) ({ cls := "OrderMerge", name := "write", desc := "(IIJ)J" } : Jvm.MethodName))) := wd_m (tb_6 (i := 144) rfl) rfl
set_option maxRecDepth 100000 in
theorem wd_1497 : am_wok (false, (Jvm.Cond.instanceMethod ({ cls := "OrderMerge", name := "write", desc := "(IIJ)J" } : Jvm.MethodName))) := wd_m (tb_6 (i := 145) rfl) rfl
set_option maxRecDepth 100000 in
theorem wd_1498 : am_wok (false, (Jvm.Cond.selects "OrderMerge" ({ cls := "OrderMerge", name := "write", desc := "(IIJ)J" } : Jvm.MethodName) ({ cls := "OrderMerge", name := "write", desc := "(IIJ)J" } : Jvm.MethodName))) := wd_m (tb_6 (i := 146) rfl) rfl
set_option maxRecDepth 100000 in
theorem wd_1499 : am_wok (false, (Jvm.Cond.code ({ cls := "OrderMerge", name := "write", desc := "(IIJ)J" } : Jvm.MethodName) prog_1_method_63_code (6 : Nat) (Option.some Jvm.ClassFile.FieldType.long))) := wd_m (tb_6 (i := 147) rfl) rfl
set_option maxRecDepth 100000 in
theorem wd_1500 : am_wok (false, (Jvm.Cond.constantLong "OrderMerge" (387 : Nat) (-7 : Int64))) := wd_m (tb_6 (i := 148) rfl) rfl
set_option maxRecDepth 100000 in
theorem wd_1501 : am_wok (false, (Jvm.Cond.methodLink "OrderMerge" (389 : Nat) ({ cls := "OrderMerge$Tray", name := "put", desc := "(IJ)V" } : Jvm.MethodName))) := wd_m (tb_6 (i := 149) rfl) rfl
set_option maxRecDepth 100000 in
theorem wd_1502 : am_wok (false, (Jvm.Cond.instanceMethod ({ cls := "OrderMerge$Tray", name := "put", desc := "(IJ)V" } : Jvm.MethodName))) := wd_m (tb_6 (i := 150) rfl) rfl
set_option maxRecDepth 100000 in
theorem wd_1503 : am_wok (false, (Jvm.Cond.selects "OrderMerge$Tray" ({ cls := "OrderMerge$Tray", name := "put", desc := "(IJ)V" } : Jvm.MethodName) ({ cls := "OrderMerge$Tray", name := "put", desc := "(IJ)V" } : Jvm.MethodName))) := wd_m (tb_6 (i := 151) rfl) rfl
set_option maxRecDepth 100000 in
theorem wd_1504 : am_wok (false, (Jvm.Cond.code ({ cls := "OrderMerge$Tray", name := "put", desc := "(IJ)V" } : Jvm.MethodName) prog_11_method_5_code (4 : Nat) (Option.none : Option Jvm.ClassFile.FieldType))) := wd_m (tb_6 (i := 152) rfl) rfl
set_option maxRecDepth 100000 in
theorem wd_1505 : am_wok (false, (Jvm.Cond.methodLink "OrderMerge$Tray" (28 : Nat) ({ cls := "OrderMerge$Tray", name := "cut", desc := "(J)J" } : Jvm.MethodName))) := wd_m (tb_6 (i := 153) rfl) rfl
set_option maxRecDepth 100000 in
theorem wd_1507 : am_wok (false, (Jvm.Cond.instanceMethod ({ cls := "OrderMerge$Tray", name := "cut", desc := "(J)J" } : Jvm.MethodName))) := wd_m (tb_6 (i := 155) rfl) rfl
set_option maxRecDepth 100000 in
theorem wd_1508 : am_wok (false, (Jvm.Cond.code ({ cls := "OrderMerge$Tray", name := "cut", desc := "(J)J" } : Jvm.MethodName) prog_11_method_6_code (3 : Nat) (Option.some Jvm.ClassFile.FieldType.long))) := wd_m (tb_6 (i := 156) rfl) rfl
set_option maxRecDepth 100000 in
theorem wd_1509 : am_wok (false, (Jvm.Cond.methodLink "OrderMergeLaw" (197 : Nat) ({ cls := "OrderMerge", name := "lists", desc := "(II)I" } : Jvm.MethodName))) := wd_m (tb_6 (i := 157) rfl) rfl
set_option maxRecDepth 100000 in
theorem wd_1510 : am_wok (false, (Jvm.Cond.instanceMethod ({ cls := "OrderMerge", name := "lists", desc := "(II)I" } : Jvm.MethodName))) := wd_m (tb_6 (i := 158) rfl) rfl
set_option maxRecDepth 100000 in
theorem wd_1511 : am_wok (false, (Jvm.Cond.selects "OrderMerge" ({ cls := "OrderMerge", name := "lists", desc := "(II)I" } : Jvm.MethodName) ({ cls := "OrderMerge", name := "lists", desc := "(II)I" } : Jvm.MethodName))) := wd_m (tb_6 (i := 159) rfl) rfl
set_option maxRecDepth 100000 in
theorem wd_1512 : am_wok (false, (Jvm.Cond.code ({ cls := "OrderMerge", name := "lists", desc := "(II)I" } : Jvm.MethodName) prog_1_method_64_code (5 : Nat) (Option.some Jvm.ClassFile.FieldType.int))) := wd_m (tb_6 (i := 160) rfl) rfl
set_option maxRecDepth 100000 in
theorem wd_1513 : am_wok (false, (Jvm.Cond.methodLink "OrderMerge" (393 : Nat) ({ cls := "java/lang/Math", name := "min", desc := "(II)I" } : Jvm.MethodName))) := wd_m (tb_6 (i := 161) rfl) rfl
set_option maxRecDepth 100000 in
theorem wd_1514 : am_wok (false, (Jvm.Cond.methodLink "OrderMergeLaw" (201 : Nat) ({ cls := "OrderMerge", name := "image", desc := "(I)I" } : Jvm.MethodName))) := wd_m (tb_6 (i := 162) rfl) rfl
set_option maxRecDepth 100000 in
theorem wd_1515 : am_wok (false, (Jvm.Cond.instanceMethod ({ cls := "OrderMerge", name := "image", desc := "(I)I" } : Jvm.MethodName))) := wd_m (tb_6 (i := 163) rfl) rfl
set_option maxRecDepth 100000 in
theorem wd_1516 : am_wok (false, (Jvm.Cond.selects "OrderMerge" ({ cls := "OrderMerge", name := "image", desc := "(I)I" } : Jvm.MethodName) ({ cls := "OrderMerge", name := "image", desc := "(I)I" } : Jvm.MethodName))) := wd_m (tb_6 (i := 164) rfl) rfl
set_option maxRecDepth 100000 in
theorem wd_1517 : am_wok (false, (Jvm.Cond.code ({ cls := "OrderMerge", name := "image", desc := "(I)I" } : Jvm.MethodName) prog_1_method_65_code (2 : Nat) (Option.some Jvm.ClassFile.FieldType.int))) := wd_m (tb_6 (i := 165) rfl) rfl
set_option maxRecDepth 100000 in
theorem wd_1518 : am_wok (false, (Jvm.Cond.methodLink "OrderMerge" (398 : Nat) ({ cls := "OrderMerge$House", name := "copyFrom", desc := "(LOrderMerge$House;)V" } : Jvm.MethodName))) := wd_m (tb_6 (i := 166) rfl) rfl
set_option maxRecDepth 100000 in
theorem wd_1519 : am_wok (false, (Jvm.Cond.instanceMethod ({ cls := "OrderMerge$House", name := "copyFrom", desc := "(LOrderMerge$House;)V" } : Jvm.MethodName))) := wd_m (tb_6 (i := 167) rfl) rfl
set_option maxRecDepth 100000 in
theorem wd_1520 : am_wok (false, (Jvm.Cond.selects "OrderMerge$House" ({ cls := "OrderMerge$House", name := "copyFrom", desc := "(LOrderMerge$House;)V" } : Jvm.MethodName) ({ cls := "OrderMerge$House", name := "copyFrom", desc := "(LOrderMerge$House;)V" } : Jvm.MethodName))) := wd_m (tb_6 (i := 168) rfl) rfl
set_option maxRecDepth 100000 in
theorem wd_1521 : am_wok (false, (Jvm.Cond.code ({ cls := "OrderMerge$House", name := "copyFrom", desc := "(LOrderMerge$House;)V" } : Jvm.MethodName) prog_4_method_2_code (2 : Nat) (Option.none : Option Jvm.ClassFile.FieldType))) := wd_m (tb_6 (i := 169) rfl) rfl
set_option maxRecDepth 100000 in
theorem wd_1522 : am_wok (false, (Jvm.Cond.methodLink "OrderMerge$House" (16 : Nat) ({ cls := "OrderMerge$Facts", name := "copyFrom", desc := "(LOrderMerge$Facts;)V" } : Jvm.MethodName))) := wd_m (tb_6 (i := 170) rfl) rfl
set_option maxRecDepth 100000 in
theorem wd_1523 : am_wok (false, (Jvm.Cond.methodLink "OrderMergeLaw" (205 : Nat) ({ cls := "OrderMerge", name := "restore", desc := "(I)I" } : Jvm.MethodName))) := wd_m (tb_6 (i := 171) rfl) rfl
set_option maxRecDepth 100000 in
theorem wd_1524 : am_wok (false, (Jvm.Cond.instanceMethod ({ cls := "OrderMerge", name := "restore", desc := "(I)I" } : Jvm.MethodName))) := wd_m (tb_6 (i := 172) rfl) rfl
set_option maxRecDepth 100000 in
theorem wd_1525 : am_wok (false, (Jvm.Cond.selects "OrderMerge" ({ cls := "OrderMerge", name := "restore", desc := "(I)I" } : Jvm.MethodName) ({ cls := "OrderMerge", name := "restore", desc := "(I)I" } : Jvm.MethodName))) := wd_m (tb_6 (i := 173) rfl) rfl
set_option maxRecDepth 100000 in
theorem wd_1526 : am_wok (false, (Jvm.Cond.code ({ cls := "OrderMerge", name := "restore", desc := "(I)I" } : Jvm.MethodName) prog_1_method_66_code (2 : Nat) (Option.some Jvm.ClassFile.FieldType.int))) := wd_m (tb_6 (i := 174) rfl) rfl
set_option maxRecDepth 100000 in
theorem wd_1527 : am_wok (false, (Jvm.Cond.methodLink "OrderMergeLaw" (209 : Nat) ({ cls := "OrderMerge", name := "count", desc := "(I)I" } : Jvm.MethodName))) := wd_m (tb_6 (i := 175) rfl) rfl
set_option maxRecDepth 100000 in
theorem wd_1528 : am_wok (false, (Jvm.Cond.instanceMethod ({ cls := "OrderMerge", name := "count", desc := "(I)I" } : Jvm.MethodName))) := wd_m (tb_6 (i := 176) rfl) rfl
set_option maxRecDepth 100000 in
theorem wd_1529 : am_wok (false, (Jvm.Cond.selects "OrderMerge" ({ cls := "OrderMerge", name := "count", desc := "(I)I" } : Jvm.MethodName) ({ cls := "OrderMerge", name := "count", desc := "(I)I" } : Jvm.MethodName))) := wd_m (tb_6 (i := 177) rfl) rfl
set_option maxRecDepth 100000 in
theorem wd_1530 : am_wok (false, (Jvm.Cond.code ({ cls := "OrderMerge", name := "count", desc := "(I)I" } : Jvm.MethodName) prog_1_method_67_code (3 : Nat) (Option.some Jvm.ClassFile.FieldType.int))) := wd_m (tb_6 (i := 178) rfl) rfl
set_option maxRecDepth 100000 in
theorem wd_1531 : am_wok (false, (Jvm.Cond.methodLink "OrderMerge" (400 : Nat) ({ cls := "OrderMerge$Facts", name := "definitionCount", desc := "()I" } : Jvm.MethodName))) := wd_m (tb_6 (i := 179) rfl) rfl
set_option maxRecDepth 100000 in
theorem wd_1532 : am_wok (false, (Jvm.Cond.instanceMethod ({ cls := "OrderMerge$Facts", name := "definitionCount", desc := "()I" } : Jvm.MethodName))) := wd_m (tb_6 (i := 180) rfl) rfl
set_option maxRecDepth 100000 in
theorem wd_1533 : am_wok (false, (Jvm.Cond.selects "OrderMerge$Facts" ({ cls := "OrderMerge$Facts", name := "definitionCount", desc := "()I" } : Jvm.MethodName) ({ cls := "OrderMerge$Facts", name := "definitionCount", desc := "()I" } : Jvm.MethodName))) := wd_m (tb_6 (i := 181) rfl) rfl
set_option maxRecDepth 100000 in
theorem wd_1534 : am_wok (false, (Jvm.Cond.code ({ cls := "OrderMerge$Facts", name := "definitionCount", desc := "()I" } : Jvm.MethodName) prog_3_method_11_code (6 : Nat) (Option.some Jvm.ClassFile.FieldType.int))) := wd_m (tb_6 (i := 182) rfl) rfl
set_option maxRecDepth 100000 in
theorem wd_1535 : am_wok (false, (Jvm.Cond.classLink "OrderMergeLaw" (10 : Nat) "OrderMergeModel")) := wd_m (tb_6 (i := 183) rfl) rfl
set_option maxRecDepth 100000 in
theorem wd_1536 : am_wok (false, (Jvm.Cond.instantiable "OrderMergeModel" (44 : Nat))) := wd_m (tb_6 (i := 184) rfl) rfl
set_option maxRecDepth 100000 in
theorem wd_1537 : am_wok (false, (Jvm.Cond.methodLink "OrderMergeLaw" (12 : Nat) ({ cls := "OrderMergeModel", name := "<init>", desc := "()V" } : Jvm.MethodName))) := wd_m (tb_6 (i := 185) rfl) rfl
set_option maxRecDepth 100000 in
theorem wd_1538 : am_wok (false, (Jvm.Cond.instanceMethod ({ cls := "OrderMergeModel", name := "<init>", desc := "()V" } : Jvm.MethodName))) := wd_m (tb_6 (i := 186) rfl) rfl
set_option maxRecDepth 100000 in
theorem wd_1539 : am_wok (false, (Jvm.Cond.code ({ cls := "OrderMergeModel", name := "<init>", desc := "()V" } : Jvm.MethodName) prog_14_method_3_code (1 : Nat) (Option.none : Option Jvm.ClassFile.FieldType))) := wd_m (tb_6 (i := 187) rfl) rfl
set_option maxRecDepth 100000 in
theorem wd_1540 : am_wok (false, (Jvm.Cond.methodLink "OrderMergeModel" (7 : Nat) ({ cls := "java/lang/Object", name := "<init>", desc := "()V" } : Jvm.MethodName))) := wd_m (tb_6 (i := 188) rfl) rfl
set_option maxRecDepth 100000 in
theorem wd_1541 : am_wok (false, (Jvm.Cond.methodLink "OrderMergeModel" (91 : Nat) ({ cls := "OrderMergeModel", name := "plain", desc := "([I)V" } : Jvm.MethodName))) := wd_m (tb_6 (i := 189) rfl) rfl
set_option maxRecDepth 100000 in
theorem wd_1542 : am_wok (false, (Jvm.Cond.static ({ cls := "OrderMergeModel", name := "plain", desc := "([I)V" } : Jvm.MethodName))) := wd_m (tb_6 (i := 190) rfl) rfl
set_option maxRecDepth 100000 in
theorem wd_1543 : am_wok (false, (Jvm.Cond.code ({ cls := "OrderMergeModel", name := "plain", desc := "([I)V" } : Jvm.MethodName) prog_14_method_4_code (2 : Nat) (Option.none : Option Jvm.ClassFile.FieldType))) := wd_m (tb_6 (i := 191) rfl) rfl
set_option maxRecDepth 100000 in
theorem wd_1544 : am_wok (false, (Jvm.Cond.fieldLink "OrderMergeModel" (1 : Nat) "OrderMergeModel" "thrown" "I")) := wd_m (tb_6 (i := 192) rfl) rfl
set_option maxRecDepth 100000 in
theorem wd_1545 : am_wok (false, (Jvm.Cond.fieldLink "OrderMergeModel" (13 : Nat) "OrderMergeModel" "all" "[I")) := wd_m (tb_6 (i := 193) rfl) rfl
set_option maxRecDepth 100000 in
theorem wd_1546 : am_wok (false, (Jvm.Cond.fieldLink "OrderMergeModel" (17 : Nat) "OrderMergeModel" "hasImage" "[Z")) := wd_m (tb_6 (i := 194) rfl) rfl
set_option maxRecDepth 100000 in
theorem wd_1547 : am_wok (false, (Jvm.Cond.fieldLink "OrderMergeModel" (21 : Nat) "OrderMergeModel" "tape" "[I")) := wd_m (tb_6 (i := 195) rfl) rfl
set_option maxRecDepth 100000 in
theorem wd_1548 : am_wok (false, (Jvm.Cond.fieldLink "OrderMergeModel" (24 : Nat) "OrderMergeModel" "fresh" "[I")) := wd_m (tb_6 (i := 196) rfl) rfl
set_option maxRecDepth 100000 in
theorem wd_1549 : am_wok (false, (Jvm.Cond.fieldLink "OrderMergeModel" (95 : Nat) "OrderMergeModel" "taped" "I")) := wd_m (tb_6 (i := 197) rfl) rfl
set_option maxRecDepth 100000 in
theorem wd_1550 : am_wok (false, (Jvm.Cond.fieldLink "OrderMergeModel" (113 : Nat) "OrderMergeModel" "at" "I")) := wd_m (tb_6 (i := 198) rfl) rfl
set_option maxRecDepth 100000 in
theorem wd_1551 : am_wok (false, (Jvm.Cond.fieldLink "OrderMergeModel" (116 : Nat) "OrderMergeModel" "behind" "I")) := wd_m (tb_6 (i := 199) rfl) rfl
set_option maxRecDepth 100000 in
theorem wd_1552 : am_wok (false, (Jvm.Cond.fieldLink "OrderMergeModel" (98 : Nat) "OrderMergeModel" "size" "I")) := wd_m (tb_6 (i := 200) rfl) rfl
set_option maxRecDepth 100000 in
theorem wd_1553 : am_wok (false, (Jvm.Cond.fieldLink "OrderMergeModel" (123 : Nat) "OrderMergeModel" "kind" "I")) := wd_m (tb_6 (i := 201) rfl) rfl
set_option maxRecDepth 100000 in
theorem wd_1554 : am_wok (false, (Jvm.Cond.fieldLink "OrderMergeModel" (136 : Nat) "OrderMergeModel" "number" "I")) := wd_m (tb_6 (i := 202) rfl) rfl
set_option maxRecDepth 100000 in
theorem wd_1555 : am_wok (false, (Jvm.Cond.fieldLink "OrderMergeModel" (141 : Nat) "OrderMergeModel" "wrong" "I")) := wd_m (tb_6 (i := 203) rfl) rfl
set_option maxRecDepth 100000 in
theorem wd_1556 : am_wok (false, (Jvm.Cond.fieldLink "OrderMergeModel" (144 : Nat) "OrderMergeModel" "wrongAt" "I")) := wd_m (tb_6 (i := 204) rfl) rfl
set_option maxRecDepth 100000 in
theorem wd_1557 : am_wok (false, (Jvm.Cond.fieldLink "OrderMergeModel" (224 : Nat) "OrderMergeModel" "faultKind" "I")) := wd_m (tb_6 (i := 205) rfl) rfl
set_option maxRecDepth 100000 in
theorem wd_1558 : am_wok (false, (Jvm.Cond.fieldLink "OrderMergeModel" (27 : Nat) "OrderMergeModel" "faultPlace" "I")) := wd_m (tb_6 (i := 206) rfl) rfl
set_option maxRecDepth 100000 in
theorem wd_1559 : am_wok (false, (Jvm.Cond.fieldLink "OrderMergeModel" (161 : Nat) "OrderMergeModel" "reading" "I")) := wd_m (tb_6 (i := 207) rfl) rfl
set_option maxRecDepth 100000 in
theorem wd_1560 : am_wok (false, (Jvm.Cond.fieldLink "OrderMergeModel" (30 : Nat) "OrderMergeModel" "orderMany" "[I")) := wd_m (tb_6 (i := 208) rfl) rfl
set_option maxRecDepth 100000 in
theorem wd_1561 : am_wok (false, (Jvm.Cond.fieldLink "OrderMergeModel" (33 : Nat) "OrderMergeModel" "orders" "[I")) := wd_m (tb_6 (i := 209) rfl) rfl
set_option maxRecDepth 100000 in
theorem wd_1562 : am_wok (false, (Jvm.Cond.fieldLink "OrderMergeModel" (36 : Nat) "OrderMergeModel" "stateOf" "[I")) := wd_m (tb_6 (i := 210) rfl) rfl
set_option maxRecDepth 100000 in
theorem wd_1563 : am_wok (false, (Jvm.Cond.fieldLink "OrderMergeModel" (39 : Nat) "OrderMergeModel" "rowAt" "[I")) := wd_m (tb_6 (i := 211) rfl) rfl
set_option maxRecDepth 100000 in
theorem wd_1564 : am_wok (false, (Jvm.Cond.fieldLink "OrderMergeModel" (42 : Nat) "OrderMergeModel" "rowEnd" "[I")) := wd_m (tb_6 (i := 212) rfl) rfl
set_option maxRecDepth 100000 in
theorem wd_1565 : am_wok (false, (Jvm.Cond.fieldLink "OrderMergeModel" (45 : Nat) "OrderMergeModel" "rows" "[I")) := wd_m (tb_6 (i := 213) rfl) rfl
set_option maxRecDepth 100000 in
theorem wd_1566 : am_wok (false, (Jvm.Cond.fieldLink "OrderMergeModel" (48 : Nat) "OrderMergeModel" "parents" "[I")) := wd_m (tb_6 (i := 214) rfl) rfl
set_option maxRecDepth 100000 in
theorem wd_1567 : am_wok (false, (Jvm.Cond.fieldLink "OrderMergeModel" (232 : Nat) "OrderMergeModel" "parentMany" "I")) := wd_m (tb_6 (i := 215) rfl) rfl
set_option maxRecDepth 100000 in
theorem wd_1568 : am_wok (false, (Jvm.Cond.fieldLink "OrderMergeModel" (51 : Nat) "OrderMergeModel" "was" "[I")) := wd_m (tb_6 (i := 216) rfl) rfl
set_option maxRecDepth 100000 in
theorem wd_1569 : am_wok (false, (Jvm.Cond.fieldLink "OrderMergeModel" (330 : Nat) "OrderMergeModel" "toldWhy" "I")) := wd_m (tb_6 (i := 217) rfl) rfl
set_option maxRecDepth 100000 in
theorem wd_1570 : am_wok (false, (Jvm.Cond.fieldLink "OrderMergeModel" (358 : Nat) "OrderMergeModel" "x" "I")) := wd_m (tb_6 (i := 218) rfl) rfl
set_option maxRecDepth 100000 in
theorem wd_1571 : am_wok (false, (Jvm.Cond.fieldLink "OrderMergeModel" (54 : Nat) "OrderMergeModel" "aheadOf" "[I")) := wd_m (tb_6 (i := 219) rfl) rfl
set_option maxRecDepth 100000 in
theorem wd_1572 : am_wok (false, (Jvm.Cond.fieldLink "OrderMergeModel" (57 : Nat) "OrderMergeModel" "ringOf" "[I")) := wd_m (tb_6 (i := 220) rfl) rfl
set_option maxRecDepth 100000 in
theorem wd_1573 : am_wok (false, (Jvm.Cond.fieldLink "OrderMergeModel" (60 : Nat) "OrderMergeModel" "waysBehind" "[I")) := wd_m (tb_6 (i := 221) rfl) rfl
set_option maxRecDepth 100000 in
theorem wd_1574 : am_wok (false, (Jvm.Cond.fieldLink "OrderMergeModel" (63 : Nat) "OrderMergeModel" "oldRow" "[I")) := wd_m (tb_6 (i := 222) rfl) rfl
set_option maxRecDepth 100000 in
theorem wd_1575 : am_wok (false, (Jvm.Cond.fieldLink "OrderMergeModel" (394 : Nat) "OrderMergeModel" "oldMany" "I")) := wd_m (tb_6 (i := 223) rfl) rfl
set_option maxRecDepth 100000 in
theorem wd_1576 : am_wok (false, (Jvm.Cond.fieldLink "OrderMergeModel" (66 : Nat) "OrderMergeModel" "reckoned" "[I")) := wd_m (tb_6 (i := 224) rfl) rfl
set_option maxRecDepth 100000 in
theorem wd_1577 : am_wok (false, (Jvm.Cond.fieldLink "OrderMergeModel" (69 : Nat) "OrderMergeModel" "words" "[I")) := wd_m (tb_6 (i := 225) rfl) rfl
set_option maxRecDepth 100000 in
theorem wd_1578 : am_wok (false, (Jvm.Cond.fieldLink "OrderMergeModel" (72 : Nat) "OrderMergeModel" "goesTo" "[I")) := wd_m (tb_6 (i := 226) rfl) rfl
set_option maxRecDepth 100000 in
theorem wd_1579 : am_wok (false, (Jvm.Cond.fieldLink "OrderMergeModel" (429 : Nat) "OrderMergeModel" "goesMany" "I")) := wd_m (tb_6 (i := 227) rfl) rfl
set_option maxRecDepth 100000 in
theorem wd_1580 : am_wok (false, (Jvm.Cond.fieldLink "OrderMergeModel" (75 : Nat) "OrderMergeModel" "takenLinks" "[I")) := wd_m (tb_6 (i := 228) rfl) rfl
set_option maxRecDepth 100000 in
theorem wd_1581 : am_wok (false, (Jvm.Cond.fieldLink "OrderMergeModel" (462 : Nat) "OrderMergeModel" "takenMany" "I")) := wd_m (tb_6 (i := 229) rfl) rfl
set_option maxRecDepth 100000 in
theorem wd_1582 : am_wok (false, (Jvm.Cond.fieldLink "OrderMergeModel" (78 : Nat) "OrderMergeModel" "saysBy" "[I")) := wd_m (tb_6 (i := 230) rfl) rfl
set_option maxRecDepth 100000 in
theorem wd_1583 : am_wok (false, (Jvm.Cond.fieldLink "OrderMergeModel" (497 : Nat) "OrderMergeModel" "wholeSum" "J")) := wd_m (tb_6 (i := 231) rfl) rfl
set_option maxRecDepth 100000 in
theorem wd_1584 : am_wok (false, (Jvm.Cond.fieldLink "OrderMergeModel" (501 : Nat) "OrderMergeModel" "orderSum" "J")) := wd_m (tb_6 (i := 232) rfl) rfl
set_option maxRecDepth 100000 in
theorem wd_1585 : am_wok (false, (Jvm.Cond.fieldLink "OrderMergeModel" (81 : Nat) "OrderMergeModel" "rowSort" "[I")) := wd_m (tb_6 (i := 233) rfl) rfl
set_option maxRecDepth 100000 in
theorem wd_1586 : am_wok (false, (Jvm.Cond.fieldLink "OrderMergeModel" (84 : Nat) "OrderMergeModel" "rowMany" "[I")) := wd_m (tb_6 (i := 234) rfl) rfl
set_option maxRecDepth 100000 in
theorem wd_1587 : am_wok (false, (Jvm.Cond.fieldLink "OrderMergeModel" (87 : Nat) "OrderMergeModel" "numbers" "[J")) := wd_m (tb_6 (i := 235) rfl) rfl
set_option maxRecDepth 100000 in
theorem wd_1588 : am_wok (false, (Jvm.Cond.lays "OrderMergeModel" "OrderMergeModel" "thrown" "I")) := wd_m (tb_6 (i := 236) rfl) rfl
set_option maxRecDepth 100000 in
theorem wd_1590 : am_wok (false, (Jvm.Cond.laysFinal "OrderMergeModel" "OrderMergeModel" "all" "[I")) := wd_m (tb_6 (i := 238) rfl) rfl
set_option maxRecDepth 100000 in
theorem wd_1592 : am_wok (false, (Jvm.Cond.laysFinal "OrderMergeModel" "OrderMergeModel" "hasImage" "[Z")) := wd_m (tb_7 (i := 0) rfl) rfl
set_option maxRecDepth 100000 in
theorem wd_1594 : am_wok (false, (Jvm.Cond.laysFinal "OrderMergeModel" "OrderMergeModel" "tape" "[I")) := wd_m (tb_7 (i := 2) rfl) rfl
set_option maxRecDepth 100000 in
theorem wd_1596 : am_wok (false, (Jvm.Cond.laysFinal "OrderMergeModel" "OrderMergeModel" "fresh" "[I")) := wd_m (tb_7 (i := 4) rfl) rfl
set_option maxRecDepth 100000 in
theorem wd_1598 : am_wok (false, (Jvm.Cond.lays "OrderMergeModel" "OrderMergeModel" "taped" "I")) := wd_m (tb_7 (i := 6) rfl) rfl
set_option maxRecDepth 100000 in
theorem wd_1600 : am_wok (false, (Jvm.Cond.lays "OrderMergeModel" "OrderMergeModel" "at" "I")) := wd_m (tb_7 (i := 8) rfl) rfl
set_option maxRecDepth 100000 in
theorem wd_1602 : am_wok (false, (Jvm.Cond.lays "OrderMergeModel" "OrderMergeModel" "behind" "I")) := wd_m (tb_7 (i := 10) rfl) rfl
set_option maxRecDepth 100000 in
theorem wd_1604 : am_wok (false, (Jvm.Cond.lays "OrderMergeModel" "OrderMergeModel" "size" "I")) := wd_m (tb_7 (i := 12) rfl) rfl
set_option maxRecDepth 100000 in
theorem wd_1606 : am_wok (false, (Jvm.Cond.lays "OrderMergeModel" "OrderMergeModel" "kind" "I")) := wd_m (tb_7 (i := 14) rfl) rfl
set_option maxRecDepth 100000 in
theorem wd_1608 : am_wok (false, (Jvm.Cond.lays "OrderMergeModel" "OrderMergeModel" "number" "I")) := wd_m (tb_7 (i := 16) rfl) rfl
set_option maxRecDepth 100000 in
theorem wd_1610 : am_wok (false, (Jvm.Cond.lays "OrderMergeModel" "OrderMergeModel" "wrong" "I")) := wd_m (tb_7 (i := 18) rfl) rfl
set_option maxRecDepth 100000 in
theorem wd_1612 : am_wok (false, (Jvm.Cond.lays "OrderMergeModel" "OrderMergeModel" "wrongAt" "I")) := wd_m (tb_7 (i := 20) rfl) rfl
set_option maxRecDepth 100000 in
theorem wd_1614 : am_wok (false, (Jvm.Cond.lays "OrderMergeModel" "OrderMergeModel" "faultKind" "I")) := wd_m (tb_7 (i := 22) rfl) rfl
set_option maxRecDepth 100000 in
theorem wd_1616 : am_wok (false, (Jvm.Cond.lays "OrderMergeModel" "OrderMergeModel" "faultPlace" "I")) := wd_m (tb_7 (i := 24) rfl) rfl
set_option maxRecDepth 100000 in
theorem wd_1618 : am_wok (false, (Jvm.Cond.lays "OrderMergeModel" "OrderMergeModel" "reading" "I")) := wd_m (tb_7 (i := 26) rfl) rfl
set_option maxRecDepth 100000 in
theorem wd_1620 : am_wok (false, (Jvm.Cond.laysFinal "OrderMergeModel" "OrderMergeModel" "orderMany" "[I")) := wd_m (tb_7 (i := 28) rfl) rfl
set_option maxRecDepth 100000 in
theorem wd_1622 : am_wok (false, (Jvm.Cond.laysFinal "OrderMergeModel" "OrderMergeModel" "orders" "[I")) := wd_m (tb_7 (i := 30) rfl) rfl
set_option maxRecDepth 100000 in
theorem wd_1624 : am_wok (false, (Jvm.Cond.laysFinal "OrderMergeModel" "OrderMergeModel" "stateOf" "[I")) := wd_m (tb_7 (i := 32) rfl) rfl
set_option maxRecDepth 100000 in
theorem wd_1626 : am_wok (false, (Jvm.Cond.laysFinal "OrderMergeModel" "OrderMergeModel" "rowAt" "[I")) := wd_m (tb_7 (i := 34) rfl) rfl
set_option maxRecDepth 100000 in
theorem wd_1628 : am_wok (false, (Jvm.Cond.laysFinal "OrderMergeModel" "OrderMergeModel" "rowEnd" "[I")) := wd_m (tb_7 (i := 36) rfl) rfl
set_option maxRecDepth 100000 in
theorem wd_1630 : am_wok (false, (Jvm.Cond.laysFinal "OrderMergeModel" "OrderMergeModel" "rows" "[I")) := wd_m (tb_7 (i := 38) rfl) rfl
set_option maxRecDepth 100000 in
theorem wd_1632 : am_wok (false, (Jvm.Cond.laysFinal "OrderMergeModel" "OrderMergeModel" "parents" "[I")) := wd_m (tb_7 (i := 40) rfl) rfl
set_option maxRecDepth 100000 in
theorem wd_1634 : am_wok (false, (Jvm.Cond.lays "OrderMergeModel" "OrderMergeModel" "parentMany" "I")) := wd_m (tb_7 (i := 42) rfl) rfl
set_option maxRecDepth 100000 in
theorem wd_1636 : am_wok (false, (Jvm.Cond.laysFinal "OrderMergeModel" "OrderMergeModel" "was" "[I")) := wd_m (tb_7 (i := 44) rfl) rfl
set_option maxRecDepth 100000 in
theorem wd_1638 : am_wok (false, (Jvm.Cond.lays "OrderMergeModel" "OrderMergeModel" "toldWhy" "I")) := wd_m (tb_7 (i := 46) rfl) rfl
set_option maxRecDepth 100000 in
theorem wd_1640 : am_wok (false, (Jvm.Cond.lays "OrderMergeModel" "OrderMergeModel" "x" "I")) := wd_m (tb_7 (i := 48) rfl) rfl
set_option maxRecDepth 100000 in
theorem wd_1642 : am_wok (false, (Jvm.Cond.laysFinal "OrderMergeModel" "OrderMergeModel" "aheadOf" "[I")) := wd_m (tb_7 (i := 50) rfl) rfl
set_option maxRecDepth 100000 in
theorem wd_1644 : am_wok (false, (Jvm.Cond.laysFinal "OrderMergeModel" "OrderMergeModel" "ringOf" "[I")) := wd_m (tb_7 (i := 52) rfl) rfl
set_option maxRecDepth 100000 in
theorem wd_1646 : am_wok (false, (Jvm.Cond.laysFinal "OrderMergeModel" "OrderMergeModel" "waysBehind" "[I")) := wd_m (tb_7 (i := 54) rfl) rfl
set_option maxRecDepth 100000 in
theorem wd_1648 : am_wok (false, (Jvm.Cond.laysFinal "OrderMergeModel" "OrderMergeModel" "oldRow" "[I")) := wd_m (tb_7 (i := 56) rfl) rfl
set_option maxRecDepth 100000 in
theorem wd_1650 : am_wok (false, (Jvm.Cond.lays "OrderMergeModel" "OrderMergeModel" "oldMany" "I")) := wd_m (tb_7 (i := 58) rfl) rfl
set_option maxRecDepth 100000 in
theorem wd_1652 : am_wok (false, (Jvm.Cond.laysFinal "OrderMergeModel" "OrderMergeModel" "reckoned" "[I")) := wd_m (tb_7 (i := 60) rfl) rfl
set_option maxRecDepth 100000 in
theorem wd_1654 : am_wok (false, (Jvm.Cond.laysFinal "OrderMergeModel" "OrderMergeModel" "words" "[I")) := wd_m (tb_7 (i := 62) rfl) rfl
set_option maxRecDepth 100000 in
theorem wd_1656 : am_wok (false, (Jvm.Cond.laysFinal "OrderMergeModel" "OrderMergeModel" "goesTo" "[I")) := wd_m (tb_7 (i := 64) rfl) rfl
set_option maxRecDepth 100000 in
theorem wd_1658 : am_wok (false, (Jvm.Cond.lays "OrderMergeModel" "OrderMergeModel" "goesMany" "I")) := wd_m (tb_7 (i := 66) rfl) rfl
set_option maxRecDepth 100000 in
theorem wd_1660 : am_wok (false, (Jvm.Cond.laysFinal "OrderMergeModel" "OrderMergeModel" "takenLinks" "[I")) := wd_m (tb_7 (i := 68) rfl) rfl
set_option maxRecDepth 100000 in
theorem wd_1662 : am_wok (false, (Jvm.Cond.lays "OrderMergeModel" "OrderMergeModel" "takenMany" "I")) := wd_m (tb_7 (i := 70) rfl) rfl
set_option maxRecDepth 100000 in
theorem wd_1664 : am_wok (false, (Jvm.Cond.laysFinal "OrderMergeModel" "OrderMergeModel" "saysBy" "[I")) := wd_m (tb_7 (i := 72) rfl) rfl
set_option maxRecDepth 100000 in
theorem wd_1666 : am_wok (false, (Jvm.Cond.lays "OrderMergeModel" "OrderMergeModel" "wholeSum" "J")) := wd_m (tb_7 (i := 74) rfl) rfl
set_option maxRecDepth 100000 in
theorem wd_1668 : am_wok (false, (Jvm.Cond.lays "OrderMergeModel" "OrderMergeModel" "orderSum" "J")) := wd_m (tb_7 (i := 76) rfl) rfl
set_option maxRecDepth 100000 in
theorem wd_1670 : am_wok (false, (Jvm.Cond.laysFinal "OrderMergeModel" "OrderMergeModel" "rowSort" "[I")) := wd_m (tb_7 (i := 78) rfl) rfl
set_option maxRecDepth 100000 in
theorem wd_1672 : am_wok (false, (Jvm.Cond.laysFinal "OrderMergeModel" "OrderMergeModel" "rowMany" "[I")) := wd_m (tb_7 (i := 80) rfl) rfl
set_option maxRecDepth 100000 in
theorem wd_1674 : am_wok (false, (Jvm.Cond.laysFinal "OrderMergeModel" "OrderMergeModel" "numbers" "[J")) := wd_m (tb_7 (i := 82) rfl) rfl
set_option maxRecDepth 100000 in
theorem wd_1677 : am_wok (false, (Jvm.Cond.arrayClass Jvm.ClassFile.FieldType.boolean)) := wd_m (tb_7 (i := 85) rfl) rfl
set_option maxRecDepth 100000 in
theorem wd_1678 : am_wok (false, (Jvm.Cond.methodLink "OrderMergeLaw" (17 : Nat) ({ cls := "OrderMergeModel", name := "feed", desc := "(IIIII)I" } : Jvm.MethodName))) := wd_m (tb_7 (i := 86) rfl) rfl
set_option maxRecDepth 100000 in
theorem wd_1679 : am_wok (false, (Jvm.Cond.instanceMethod ({ cls := "OrderMergeModel", name := "feed", desc := "(IIIII)I" } : Jvm.MethodName))) := wd_m (tb_7 (i := 87) rfl) rfl
set_option maxRecDepth 100000 in
theorem wd_1680 : am_wok (false, (Jvm.Cond.selects "OrderMergeModel" ({ cls := "OrderMergeModel", name := "feed", desc := "(IIIII)I" } : Jvm.MethodName) ({ cls := "OrderMergeModel", name := "feed", desc := "(IIIII)I" } : Jvm.MethodName))) := wd_m (tb_7 (i := 88) rfl) rfl
set_option maxRecDepth 100000 in
theorem wd_1681 : am_wok (false, (Jvm.Cond.code ({ cls := "OrderMergeModel", name := "feed", desc := "(IIIII)I" } : Jvm.MethodName) prog_14_method_5_code (8 : Nat) (Option.some Jvm.ClassFile.FieldType.int))) := wd_m (tb_7 (i := 89) rfl) rfl
set_option maxRecDepth 100000 in
theorem wd_1682 : am_wok (false, (Jvm.Cond.methodLink "OrderMergeLaw" (22 : Nat) ({ cls := "OrderMergeModel", name := "house", desc := "(I)I" } : Jvm.MethodName))) := wd_m (tb_7 (i := 90) rfl) rfl
set_option maxRecDepth 100000 in
theorem wd_1683 : am_wok (false, (Jvm.Cond.instanceMethod ({ cls := "OrderMergeModel", name := "house", desc := "(I)I" } : Jvm.MethodName))) := wd_m (tb_7 (i := 91) rfl) rfl
set_option maxRecDepth 100000 in
theorem wd_1684 : am_wok (false, (Jvm.Cond.selects "OrderMergeModel" ({ cls := "OrderMergeModel", name := "house", desc := "(I)I" } : Jvm.MethodName) ({ cls := "OrderMergeModel", name := "house", desc := "(I)I" } : Jvm.MethodName))) := wd_m (tb_7 (i := 92) rfl) rfl
set_option maxRecDepth 100000 in
theorem wd_1685 : am_wok (false, (Jvm.Cond.code ({ cls := "OrderMergeModel", name := "house", desc := "(I)I" } : Jvm.MethodName) prog_14_method_33_code (3 : Nat) (Option.some Jvm.ClassFile.FieldType.int))) := wd_m (tb_7 (i := 93) rfl) rfl
set_option maxRecDepth 100000 in
theorem wd_1686 : am_wok (false, (Jvm.Cond.methodLink "OrderMergeModel" (157 : Nat) ({ cls := "OrderMergeModel", name := "within", desc := "(JJJ)Z" } : Jvm.MethodName))) := wd_m (tb_7 (i := 94) rfl) rfl
set_option maxRecDepth 100000 in
theorem wd_1687 : am_wok (false, (Jvm.Cond.static ({ cls := "OrderMergeModel", name := "within", desc := "(JJJ)Z" } : Jvm.MethodName))) := wd_m (tb_7 (i := 95) rfl) rfl
set_option maxRecDepth 100000 in
theorem wd_1688 : am_wok (false, (Jvm.Cond.code ({ cls := "OrderMergeModel", name := "within", desc := "(JJJ)Z" } : Jvm.MethodName) prog_14_method_2_code (6 : Nat) (Option.some Jvm.ClassFile.FieldType.boolean))) := wd_m (tb_7 (i := 96) rfl) rfl
set_option maxRecDepth 100000 in
theorem wd_1689 : am_wok (false, (Jvm.Cond.methodLink "OrderMergeModel" (150 : Nat) ({ cls := "OrderMergeModel", name := "next", desc := "()V" } : Jvm.MethodName))) := wd_m (tb_7 (i := 97) rfl) rfl
set_option maxRecDepth 100000 in
theorem wd_1691 : am_wok (false, (Jvm.Cond.instanceMethod ({ cls := "OrderMergeModel", name := "next", desc := "()V" } : Jvm.MethodName))) := wd_m (tb_7 (i := 99) rfl) rfl
set_option maxRecDepth 100000 in
theorem wd_1692 : am_wok (false, (Jvm.Cond.code ({ cls := "OrderMergeModel", name := "next", desc := "()V" } : Jvm.MethodName) prog_14_method_10_code (2 : Nat) (Option.none : Option Jvm.ClassFile.FieldType))) := wd_m (tb_7 (i := 100) rfl) rfl
set_option maxRecDepth 100000 in
theorem wd_1693 : am_wok (false, (Jvm.Cond.methodLink "OrderMergeModel" (119 : Nat) ({ cls := "OrderMergeModel", name := "see", desc := "(I)I" } : Jvm.MethodName))) := wd_m (tb_7 (i := 101) rfl) rfl
set_option maxRecDepth 100000 in
theorem wd_1695 : am_wok (false, (Jvm.Cond.instanceMethod ({ cls := "OrderMergeModel", name := "see", desc := "(I)I" } : Jvm.MethodName))) := wd_m (tb_7 (i := 103) rfl) rfl
set_option maxRecDepth 100000 in
theorem wd_1696 : am_wok (false, (Jvm.Cond.code ({ cls := "OrderMergeModel", name := "see", desc := "(I)I" } : Jvm.MethodName) prog_14_method_6_code (2 : Nat) (Option.some Jvm.ClassFile.FieldType.int))) := wd_m (tb_7 (i := 104) rfl) rfl
set_option maxRecDepth 100000 in
theorem wd_1697 : am_wok (false, (Jvm.Cond.methodLink "OrderMergeModel" (126 : Nat) ({ cls := "OrderMergeModel", name := "isSmall", desc := "(I)Z" } : Jvm.MethodName))) := wd_m (tb_7 (i := 105) rfl) rfl
set_option maxRecDepth 100000 in
theorem wd_1698 : am_wok (false, (Jvm.Cond.static ({ cls := "OrderMergeModel", name := "isSmall", desc := "(I)Z" } : Jvm.MethodName))) := wd_m (tb_7 (i := 106) rfl) rfl
set_option maxRecDepth 100000 in
theorem wd_1699 : am_wok (false, (Jvm.Cond.code ({ cls := "OrderMergeModel", name := "isSmall", desc := "(I)Z" } : Jvm.MethodName) prog_14_method_7_code (1 : Nat) (Option.some Jvm.ClassFile.FieldType.boolean))) := wd_m (tb_7 (i := 107) rfl) rfl
set_option maxRecDepth 100000 in
theorem wd_1700 : am_wok (false, (Jvm.Cond.methodLink "OrderMergeModel" (130 : Nat) ({ cls := "OrderMergeModel", name := "keyAt", desc := "()I" } : Jvm.MethodName))) := wd_m (tb_7 (i := 108) rfl) rfl
set_option maxRecDepth 100000 in
theorem wd_1702 : am_wok (false, (Jvm.Cond.instanceMethod ({ cls := "OrderMergeModel", name := "keyAt", desc := "()I" } : Jvm.MethodName))) := wd_m (tb_7 (i := 110) rfl) rfl
set_option maxRecDepth 100000 in
theorem wd_1703 : am_wok (false, (Jvm.Cond.code ({ cls := "OrderMergeModel", name := "keyAt", desc := "()I" } : Jvm.MethodName) prog_14_method_9_code (4 : Nat) (Option.some Jvm.ClassFile.FieldType.int))) := wd_m (tb_7 (i := 111) rfl) rfl
set_option maxRecDepth 100000 in
theorem wd_1705 : am_wok (false, (Jvm.Cond.methodLink "OrderMergeModel" (103 : Nat) ({ cls := "java/lang/String", name := "length", desc := "()I" } : Jvm.MethodName))) := wd_m (tb_7 (i := 113) rfl) rfl
set_option maxRecDepth 100000 in
theorem wd_1706 : am_wok (false, (Jvm.Cond.methodLink "OrderMergeModel" (109 : Nat) ({ cls := "java/lang/String", name := "charAt", desc := "(I)C" } : Jvm.MethodName))) := wd_m (tb_7 (i := 114) rfl) rfl
set_option maxRecDepth 100000 in
theorem wd_1707 : am_wok (false, (Jvm.Cond.methodLink "OrderMergeModel" (133 : Nat) ({ cls := "OrderMergeModel", name := "isDigit", desc := "(I)Z" } : Jvm.MethodName))) := wd_m (tb_7 (i := 115) rfl) rfl
set_option maxRecDepth 100000 in
theorem wd_1708 : am_wok (false, (Jvm.Cond.static ({ cls := "OrderMergeModel", name := "isDigit", desc := "(I)Z" } : Jvm.MethodName))) := wd_m (tb_7 (i := 116) rfl) rfl
set_option maxRecDepth 100000 in
theorem wd_1709 : am_wok (false, (Jvm.Cond.code ({ cls := "OrderMergeModel", name := "isDigit", desc := "(I)Z" } : Jvm.MethodName) prog_14_method_8_code (1 : Nat) (Option.some Jvm.ClassFile.FieldType.boolean))) := wd_m (tb_7 (i := 117) rfl) rfl
set_option maxRecDepth 100000 in
theorem wd_1711 : am_wok (false, (Jvm.Cond.methodLink "OrderMergeModel" (176 : Nat) ({ cls := "OrderMergeModel", name := "eats", desc := "(I)Z" } : Jvm.MethodName))) := wd_m (tb_7 (i := 119) rfl) rfl
set_option maxRecDepth 100000 in
theorem wd_1713 : am_wok (false, (Jvm.Cond.instanceMethod ({ cls := "OrderMergeModel", name := "eats", desc := "(I)Z" } : Jvm.MethodName))) := wd_m (tb_7 (i := 121) rfl) rfl
set_option maxRecDepth 100000 in
theorem wd_1714 : am_wok (false, (Jvm.Cond.code ({ cls := "OrderMergeModel", name := "eats", desc := "(I)Z" } : Jvm.MethodName) prog_14_method_13_code (2 : Nat) (Option.some Jvm.ClassFile.FieldType.boolean))) := wd_m (tb_7 (i := 122) rfl) rfl
set_option maxRecDepth 100000 in
theorem wd_1715 : am_wok (false, (Jvm.Cond.methodLink "OrderMergeModel" (147 : Nat) ({ cls := "OrderMergeModel", name := "is", desc := "(I)Z" } : Jvm.MethodName))) := wd_m (tb_7 (i := 123) rfl) rfl
set_option maxRecDepth 100000 in
theorem wd_1717 : am_wok (false, (Jvm.Cond.instanceMethod ({ cls := "OrderMergeModel", name := "is", desc := "(I)Z" } : Jvm.MethodName))) := wd_m (tb_7 (i := 125) rfl) rfl
set_option maxRecDepth 100000 in
theorem wd_1718 : am_wok (false, (Jvm.Cond.code ({ cls := "OrderMergeModel", name := "is", desc := "(I)Z" } : Jvm.MethodName) prog_14_method_12_code (2 : Nat) (Option.some Jvm.ClassFile.FieldType.boolean))) := wd_m (tb_7 (i := 126) rfl) rfl
set_option maxRecDepth 100000 in
theorem wd_1719 : am_wok (false, (Jvm.Cond.methodLink "OrderMergeModel" (153 : Nat) ({ cls := "OrderMergeModel", name := "fails", desc := "(I)V" } : Jvm.MethodName))) := wd_m (tb_7 (i := 127) rfl) rfl
set_option maxRecDepth 100000 in
theorem wd_1721 : am_wok (false, (Jvm.Cond.instanceMethod ({ cls := "OrderMergeModel", name := "fails", desc := "(I)V" } : Jvm.MethodName))) := wd_m (tb_7 (i := 129) rfl) rfl
set_option maxRecDepth 100000 in
theorem wd_1722 : am_wok (false, (Jvm.Cond.code ({ cls := "OrderMergeModel", name := "fails", desc := "(I)V" } : Jvm.MethodName) prog_14_method_11_code (2 : Nat) (Option.none : Option Jvm.ClassFile.FieldType))) := wd_m (tb_7 (i := 130) rfl) rfl
set_option maxRecDepth 100000 in
theorem wd_1723 : am_wok (false, (Jvm.Cond.methodLink "OrderMergeModel" (205 : Nat) ({ cls := "OrderMergeModel", name := "named", desc := "(III)I" } : Jvm.MethodName))) := wd_m (tb_7 (i := 131) rfl) rfl
set_option maxRecDepth 100000 in
theorem wd_1725 : am_wok (false, (Jvm.Cond.instanceMethod ({ cls := "OrderMergeModel", name := "named", desc := "(III)I" } : Jvm.MethodName))) := wd_m (tb_7 (i := 133) rfl) rfl
set_option maxRecDepth 100000 in
theorem wd_1726 : am_wok (false, (Jvm.Cond.code ({ cls := "OrderMergeModel", name := "named", desc := "(III)I" } : Jvm.MethodName) prog_14_method_26_code (4 : Nat) (Option.some Jvm.ClassFile.FieldType.int))) := wd_m (tb_7 (i := 134) rfl) rfl
set_option maxRecDepth 100000 in
theorem wd_1727 : am_wok (false, (Jvm.Cond.methodLink "OrderMergeModel" (197 : Nat) ({ cls := "OrderMergeModel", name := "takes", desc := "(II)I" } : Jvm.MethodName))) := wd_m (tb_7 (i := 135) rfl) rfl
set_option maxRecDepth 100000 in
theorem wd_1729 : am_wok (false, (Jvm.Cond.instanceMethod ({ cls := "OrderMergeModel", name := "takes", desc := "(II)I" } : Jvm.MethodName))) := wd_m (tb_7 (i := 137) rfl) rfl
set_option maxRecDepth 100000 in
theorem wd_1730 : am_wok (false, (Jvm.Cond.code ({ cls := "OrderMergeModel", name := "takes", desc := "(II)I" } : Jvm.MethodName) prog_14_method_14_code (4 : Nat) (Option.some Jvm.ClassFile.FieldType.int))) := wd_m (tb_7 (i := 138) rfl) rfl
set_option maxRecDepth 100000 in
theorem wd_1731 : am_wok (false, (Jvm.Cond.methodLink "OrderMergeModel" (218 : Nat) ({ cls := "OrderMergeModel", name := "closes", desc := "()V" } : Jvm.MethodName))) := wd_m (tb_7 (i := 139) rfl) rfl
set_option maxRecDepth 100000 in
theorem wd_1733 : am_wok (false, (Jvm.Cond.instanceMethod ({ cls := "OrderMergeModel", name := "closes", desc := "()V" } : Jvm.MethodName))) := wd_m (tb_7 (i := 141) rfl) rfl
set_option maxRecDepth 100000 in
theorem wd_1734 : am_wok (false, (Jvm.Cond.code ({ cls := "OrderMergeModel", name := "closes", desc := "()V" } : Jvm.MethodName) prog_14_method_32_code (1 : Nat) (Option.none : Option Jvm.ClassFile.FieldType))) := wd_m (tb_7 (i := 142) rfl) rfl
set_option maxRecDepth 100000 in
theorem wd_1735 : am_wok (false, (Jvm.Cond.methodLink "OrderMergeModel" (221 : Nat) ({ cls := "OrderMergeModel", name := "readLine", desc := "()V" } : Jvm.MethodName))) := wd_m (tb_7 (i := 143) rfl) rfl
set_option maxRecDepth 100000 in
theorem wd_1737 : am_wok (false, (Jvm.Cond.instanceMethod ({ cls := "OrderMergeModel", name := "readLine", desc := "()V" } : Jvm.MethodName))) := wd_m (tb_7 (i := 145) rfl) rfl
set_option maxRecDepth 100000 in
theorem wd_1738 : am_wok (false, (Jvm.Cond.code ({ cls := "OrderMergeModel", name := "readLine", desc := "()V" } : Jvm.MethodName) prog_14_method_31_code (1 : Nat) (Option.none : Option Jvm.ClassFile.FieldType))) := wd_m (tb_7 (i := 146) rfl) rfl
set_option maxRecDepth 100000 in
theorem wd_1739 : am_wok (false, (Jvm.Cond.methodLink "OrderMergeModel" (209 : Nat) ({ cls := "OrderMergeModel", name := "readClass", desc := "()V" } : Jvm.MethodName))) := wd_m (tb_7 (i := 147) rfl) rfl
set_option maxRecDepth 100000 in
theorem wd_1741 : am_wok (false, (Jvm.Cond.instanceMethod ({ cls := "OrderMergeModel", name := "readClass", desc := "()V" } : Jvm.MethodName))) := wd_m (tb_7 (i := 149) rfl) rfl
set_option maxRecDepth 100000 in
theorem wd_1742 : am_wok (false, (Jvm.Cond.code ({ cls := "OrderMergeModel", name := "readClass", desc := "()V" } : Jvm.MethodName) prog_14_method_28_code (3 : Nat) (Option.none : Option Jvm.ClassFile.FieldType))) := wd_m (tb_7 (i := 150) rfl) rfl
set_option maxRecDepth 100000 in
theorem wd_1743 : am_wok (false, (Jvm.Cond.methodLink "OrderMergeModel" (201 : Nat) ({ cls := "OrderMergeModel", name := "isUpAlready", desc := "(II)Z" } : Jvm.MethodName))) := wd_m (tb_7 (i := 151) rfl) rfl
set_option maxRecDepth 100000 in
theorem wd_1745 : am_wok (false, (Jvm.Cond.instanceMethod ({ cls := "OrderMergeModel", name := "isUpAlready", desc := "(II)Z" } : Jvm.MethodName))) := wd_m (tb_7 (i := 153) rfl) rfl
set_option maxRecDepth 100000 in
theorem wd_1746 : am_wok (false, (Jvm.Cond.code ({ cls := "OrderMergeModel", name := "isUpAlready", desc := "(II)Z" } : Jvm.MethodName) prog_14_method_27_code (4 : Nat) (Option.some Jvm.ClassFile.FieldType.boolean))) := wd_m (tb_7 (i := 154) rfl) rfl
set_option maxRecDepth 100000 in
theorem wd_1747 : am_wok (false, (Jvm.Cond.methodLink "OrderMergeModel" (212 : Nat) ({ cls := "OrderMergeModel", name := "readMethod", desc := "()V" } : Jvm.MethodName))) := wd_m (tb_7 (i := 155) rfl) rfl
set_option maxRecDepth 100000 in
theorem wd_1749 : am_wok (false, (Jvm.Cond.instanceMethod ({ cls := "OrderMergeModel", name := "readMethod", desc := "()V" } : Jvm.MethodName))) := wd_m (tb_7 (i := 157) rfl) rfl
set_option maxRecDepth 100000 in
theorem wd_1750 : am_wok (false, (Jvm.Cond.code ({ cls := "OrderMergeModel", name := "readMethod", desc := "()V" } : Jvm.MethodName) prog_14_method_29_code (4 : Nat) (Option.none : Option Jvm.ClassFile.FieldType))) := wd_m (tb_7 (i := 158) rfl) rfl
set_option maxRecDepth 100000 in
theorem wd_1751 : am_wok (false, (Jvm.Cond.methodLink "OrderMergeModel" (215 : Nat) ({ cls := "OrderMergeModel", name := "readLaw", desc := "(I)V" } : Jvm.MethodName))) := wd_m (tb_7 (i := 159) rfl) rfl
set_option maxRecDepth 100000 in
theorem wd_1753 : am_wok (false, (Jvm.Cond.instanceMethod ({ cls := "OrderMergeModel", name := "readLaw", desc := "(I)V" } : Jvm.MethodName))) := wd_m (tb_7 (i := 161) rfl) rfl
set_option maxRecDepth 100000 in
theorem wd_1754 : am_wok (false, (Jvm.Cond.code ({ cls := "OrderMergeModel", name := "readLaw", desc := "(I)V" } : Jvm.MethodName) prog_14_method_30_code (3 : Nat) (Option.none : Option Jvm.ClassFile.FieldType))) := wd_m (tb_7 (i := 162) rfl) rfl
set_option maxRecDepth 100000 in
theorem wd_1755 : am_wok (false, (Jvm.Cond.methodLink "OrderMergeModel" (173 : Nat) ({ cls := "OrderMergeModel", name := "readSum", desc := "(I)V" } : Jvm.MethodName))) := wd_m (tb_7 (i := 163) rfl) rfl
set_option maxRecDepth 100000 in
theorem wd_1757 : am_wok (false, (Jvm.Cond.instanceMethod ({ cls := "OrderMergeModel", name := "readSum", desc := "(I)V" } : Jvm.MethodName))) := wd_m (tb_7 (i := 165) rfl) rfl
set_option maxRecDepth 100000 in
theorem wd_1758 : am_wok (false, (Jvm.Cond.code ({ cls := "OrderMergeModel", name := "readSum", desc := "(I)V" } : Jvm.MethodName) prog_14_method_22_code (3 : Nat) (Option.none : Option Jvm.ClassFile.FieldType))) := wd_m (tb_7 (i := 166) rfl) rfl
set_option maxRecDepth 100000 in
theorem wd_1759 : am_wok (false, (Jvm.Cond.methodLink "OrderMergeModel" (188 : Nat) ({ cls := "OrderMergeModel", name := "readTerm", desc := "(I)V" } : Jvm.MethodName))) := wd_m (tb_7 (i := 167) rfl) rfl
set_option maxRecDepth 100000 in
theorem wd_1761 : am_wok (false, (Jvm.Cond.instanceMethod ({ cls := "OrderMergeModel", name := "readTerm", desc := "(I)V" } : Jvm.MethodName))) := wd_m (tb_7 (i := 169) rfl) rfl
set_option maxRecDepth 100000 in
theorem wd_1762 : am_wok (false, (Jvm.Cond.code ({ cls := "OrderMergeModel", name := "readTerm", desc := "(I)V" } : Jvm.MethodName) prog_14_method_21_code (2 : Nat) (Option.none : Option Jvm.ClassFile.FieldType))) := wd_m (tb_7 (i := 170) rfl) rfl
set_option maxRecDepth 100000 in
theorem wd_1763 : am_wok (false, (Jvm.Cond.methodLink "OrderMergeModel" (185 : Nat) ({ cls := "OrderMergeModel", name := "readAtom", desc := "(I)V" } : Jvm.MethodName))) := wd_m (tb_7 (i := 171) rfl) rfl
set_option maxRecDepth 100000 in
theorem wd_1765 : am_wok (false, (Jvm.Cond.instanceMethod ({ cls := "OrderMergeModel", name := "readAtom", desc := "(I)V" } : Jvm.MethodName))) := wd_m (tb_7 (i := 173) rfl) rfl
set_option maxRecDepth 100000 in
theorem wd_1766 : am_wok (false, (Jvm.Cond.code ({ cls := "OrderMergeModel", name := "readAtom", desc := "(I)V" } : Jvm.MethodName) prog_14_method_19_code (2 : Nat) (Option.none : Option Jvm.ClassFile.FieldType))) := wd_m (tb_7 (i := 174) rfl) rfl
set_option maxRecDepth 100000 in
theorem wd_1767 : am_wok (false, (Jvm.Cond.methodLink "OrderMergeModel" (164 : Nat) ({ cls := "OrderMergeModel", name := "codes", desc := "(I)V" } : Jvm.MethodName))) := wd_m (tb_7 (i := 175) rfl) rfl
set_option maxRecDepth 100000 in
theorem wd_1769 : am_wok (false, (Jvm.Cond.instanceMethod ({ cls := "OrderMergeModel", name := "codes", desc := "(I)V" } : Jvm.MethodName))) := wd_m (tb_7 (i := 177) rfl) rfl
set_option maxRecDepth 100000 in
theorem wd_1770 : am_wok (false, (Jvm.Cond.code ({ cls := "OrderMergeModel", name := "codes", desc := "(I)V" } : Jvm.MethodName) prog_14_method_17_code (2 : Nat) (Option.none : Option Jvm.ClassFile.FieldType))) := wd_m (tb_7 (i := 178) rfl) rfl
set_option maxRecDepth 100000 in
theorem wd_1771 : am_wok (false, (Jvm.Cond.methodLink "OrderMergeModel" (167 : Nat) ({ cls := "OrderMergeModel", name := "wordOf", desc := "(I)I" } : Jvm.MethodName))) := wd_m (tb_7 (i := 179) rfl) rfl
set_option maxRecDepth 100000 in
theorem wd_1773 : am_wok (false, (Jvm.Cond.instanceMethod ({ cls := "OrderMergeModel", name := "wordOf", desc := "(I)I" } : Jvm.MethodName))) := wd_m (tb_7 (i := 181) rfl) rfl
set_option maxRecDepth 100000 in
theorem wd_1774 : am_wok (false, (Jvm.Cond.code ({ cls := "OrderMergeModel", name := "wordOf", desc := "(I)I" } : Jvm.MethodName) prog_14_method_16_code (2 : Nat) (Option.some Jvm.ClassFile.FieldType.int))) := wd_m (tb_7 (i := 182) rfl) rfl
set_option maxRecDepth 100000 in
theorem wd_1775 : am_wok (false, (Jvm.Cond.methodLink "OrderMergeModel" (170 : Nat) ({ cls := "OrderMergeModel", name := "goesIn", desc := "(I)Z" } : Jvm.MethodName))) := wd_m (tb_7 (i := 183) rfl) rfl
set_option maxRecDepth 100000 in
theorem wd_1777 : am_wok (false, (Jvm.Cond.instanceMethod ({ cls := "OrderMergeModel", name := "goesIn", desc := "(I)Z" } : Jvm.MethodName))) := wd_m (tb_7 (i := 185) rfl) rfl
set_option maxRecDepth 100000 in
theorem wd_1778 : am_wok (false, (Jvm.Cond.code ({ cls := "OrderMergeModel", name := "goesIn", desc := "(I)Z" } : Jvm.MethodName) prog_14_method_18_code (2 : Nat) (Option.some Jvm.ClassFile.FieldType.boolean))) := wd_m (tb_7 (i := 186) rfl) rfl
set_option maxRecDepth 100000 in
theorem wd_1779 : am_wok (false, (Jvm.Cond.methodLink "OrderMergeModel" (179 : Nat) ({ cls := "OrderMergeModel", name := "readIf", desc := "(I)V" } : Jvm.MethodName))) := wd_m (tb_7 (i := 187) rfl) rfl
set_option maxRecDepth 100000 in
theorem wd_1781 : am_wok (false, (Jvm.Cond.instanceMethod ({ cls := "OrderMergeModel", name := "readIf", desc := "(I)V" } : Jvm.MethodName))) := wd_m (tb_7 (i := 189) rfl) rfl
set_option maxRecDepth 100000 in
theorem wd_1782 : am_wok (false, (Jvm.Cond.code ({ cls := "OrderMergeModel", name := "readIf", desc := "(I)V" } : Jvm.MethodName) prog_14_method_20_code (2 : Nat) (Option.none : Option Jvm.ClassFile.FieldType))) := wd_m (tb_7 (i := 190) rfl) rfl
set_option maxRecDepth 100000 in
theorem wd_1783 : am_wok (false, (Jvm.Cond.methodLink "OrderMergeModel" (182 : Nat) ({ cls := "OrderMergeModel", name := "readTruth", desc := "(I)V" } : Jvm.MethodName))) := wd_m (tb_7 (i := 191) rfl) rfl
set_option maxRecDepth 100000 in
theorem wd_1785 : am_wok (false, (Jvm.Cond.instanceMethod ({ cls := "OrderMergeModel", name := "readTruth", desc := "(I)V" } : Jvm.MethodName))) := wd_m (tb_7 (i := 193) rfl) rfl
set_option maxRecDepth 100000 in
theorem wd_1786 : am_wok (false, (Jvm.Cond.code ({ cls := "OrderMergeModel", name := "readTruth", desc := "(I)V" } : Jvm.MethodName) prog_14_method_25_code (2 : Nat) (Option.none : Option Jvm.ClassFile.FieldType))) := wd_m (tb_7 (i := 194) rfl) rfl
set_option maxRecDepth 100000 in
theorem wd_1787 : am_wok (false, (Jvm.Cond.methodLink "OrderMergeModel" (194 : Nat) ({ cls := "OrderMergeModel", name := "readBoth", desc := "(I)V" } : Jvm.MethodName))) := wd_m (tb_7 (i := 195) rfl) rfl
set_option maxRecDepth 100000 in
theorem wd_1789 : am_wok (false, (Jvm.Cond.instanceMethod ({ cls := "OrderMergeModel", name := "readBoth", desc := "(I)V" } : Jvm.MethodName))) := wd_m (tb_7 (i := 197) rfl) rfl
set_option maxRecDepth 100000 in
theorem wd_1790 : am_wok (false, (Jvm.Cond.code ({ cls := "OrderMergeModel", name := "readBoth", desc := "(I)V" } : Jvm.MethodName) prog_14_method_24_code (2 : Nat) (Option.none : Option Jvm.ClassFile.FieldType))) := wd_m (tb_7 (i := 198) rfl) rfl
set_option maxRecDepth 100000 in
theorem wd_1791 : am_wok (false, (Jvm.Cond.methodLink "OrderMergeModel" (191 : Nat) ({ cls := "OrderMergeModel", name := "readUnit", desc := "(I)V" } : Jvm.MethodName))) := wd_m (tb_7 (i := 199) rfl) rfl
set_option maxRecDepth 100000 in
theorem wd_1793 : am_wok (false, (Jvm.Cond.instanceMethod ({ cls := "OrderMergeModel", name := "readUnit", desc := "(I)V" } : Jvm.MethodName))) := wd_m (tb_7 (i := 201) rfl) rfl
set_option maxRecDepth 100000 in
theorem wd_1794 : am_wok (false, (Jvm.Cond.code ({ cls := "OrderMergeModel", name := "readUnit", desc := "(I)V" } : Jvm.MethodName) prog_14_method_23_code (3 : Nat) (Option.none : Option Jvm.ClassFile.FieldType))) := wd_m (tb_7 (i := 202) rfl) rfl
set_option maxRecDepth 100000 in
theorem wd_1795 : am_wok (false, (Jvm.Cond.methodLink "OrderMergeLaw" (26 : Nat) ({ cls := "OrderMergeModel", name := "fault", desc := "(I)I" } : Jvm.MethodName))) := wd_m (tb_7 (i := 203) rfl) rfl
set_option maxRecDepth 100000 in
theorem wd_1796 : am_wok (false, (Jvm.Cond.instanceMethod ({ cls := "OrderMergeModel", name := "fault", desc := "(I)I" } : Jvm.MethodName))) := wd_m (tb_7 (i := 204) rfl) rfl
set_option maxRecDepth 100000 in
theorem wd_1797 : am_wok (false, (Jvm.Cond.selects "OrderMergeModel" ({ cls := "OrderMergeModel", name := "fault", desc := "(I)I" } : Jvm.MethodName) ({ cls := "OrderMergeModel", name := "fault", desc := "(I)I" } : Jvm.MethodName))) := wd_m (tb_7 (i := 205) rfl) rfl
set_option maxRecDepth 100000 in
theorem wd_1798 : am_wok (false, (Jvm.Cond.code ({ cls := "OrderMergeModel", name := "fault", desc := "(I)I" } : Jvm.MethodName) prog_14_method_34_code (2 : Nat) (Option.some Jvm.ClassFile.FieldType.int))) := wd_m (tb_7 (i := 206) rfl) rfl
set_option maxRecDepth 100000 in
theorem wd_1799 : am_wok (false, (Jvm.Cond.methodLink "OrderMergeLaw" (31 : Nat) ({ cls := "OrderMergeModel", name := "parent", desc := "(II)I" } : Jvm.MethodName))) := wd_m (tb_7 (i := 207) rfl) rfl
set_option maxRecDepth 100000 in
theorem wd_1800 : am_wok (false, (Jvm.Cond.instanceMethod ({ cls := "OrderMergeModel", name := "parent", desc := "(II)I" } : Jvm.MethodName))) := wd_m (tb_7 (i := 208) rfl) rfl
set_option maxRecDepth 100000 in
theorem wd_1801 : am_wok (false, (Jvm.Cond.selects "OrderMergeModel" ({ cls := "OrderMergeModel", name := "parent", desc := "(II)I" } : Jvm.MethodName) ({ cls := "OrderMergeModel", name := "parent", desc := "(II)I" } : Jvm.MethodName))) := wd_m (tb_7 (i := 209) rfl) rfl
set_option maxRecDepth 100000 in
theorem wd_1802 : am_wok (false, (Jvm.Cond.code ({ cls := "OrderMergeModel", name := "parent", desc := "(II)I" } : Jvm.MethodName) prog_14_method_48_code (3 : Nat) (Option.some Jvm.ClassFile.FieldType.int))) := wd_m (tb_7 (i := 210) rfl) rfl
set_option maxRecDepth 100000 in
theorem wd_1803 : am_wok (false, (Jvm.Cond.methodLink "OrderMergeModel" (250 : Nat) ({ cls := "OrderMergeModel", name := "isClass", desc := "(J)Z" } : Jvm.MethodName))) := wd_m (tb_7 (i := 211) rfl) rfl
set_option maxRecDepth 100000 in
theorem wd_1805 : am_wok (false, (Jvm.Cond.instanceMethod ({ cls := "OrderMergeModel", name := "isClass", desc := "(J)Z" } : Jvm.MethodName))) := wd_m (tb_7 (i := 213) rfl) rfl
set_option maxRecDepth 100000 in
theorem wd_1806 : am_wok (false, (Jvm.Cond.code ({ cls := "OrderMergeModel", name := "isClass", desc := "(J)Z" } : Jvm.MethodName) prog_14_method_35_code (3 : Nat) (Option.some Jvm.ClassFile.FieldType.boolean))) := wd_m (tb_7 (i := 214) rfl) rfl
set_option maxRecDepth 100000 in
theorem wd_1807 : am_wok (false, (Jvm.Cond.methodLink "OrderMergeModel" (229 : Nat) ({ cls := "OrderMergeModel", name := "parentAt", desc := "(II)I" } : Jvm.MethodName))) := wd_m (tb_7 (i := 215) rfl) rfl
set_option maxRecDepth 100000 in
theorem wd_1809 : am_wok (false, (Jvm.Cond.instanceMethod ({ cls := "OrderMergeModel", name := "parentAt", desc := "(II)I" } : Jvm.MethodName))) := wd_m (tb_7 (i := 217) rfl) rfl
set_option maxRecDepth 100000 in
theorem wd_1810 : am_wok (false, (Jvm.Cond.code ({ cls := "OrderMergeModel", name := "parentAt", desc := "(II)I" } : Jvm.MethodName) prog_14_method_37_code (3 : Nat) (Option.some Jvm.ClassFile.FieldType.int))) := wd_m (tb_7 (i := 218) rfl) rfl
set_option maxRecDepth 100000 in
theorem wd_1811 : am_wok (false, (Jvm.Cond.methodLink "OrderMergeLaw" (35 : Nat) ({ cls := "OrderMergeModel", name := "defines", desc := "(II)I" } : Jvm.MethodName))) := wd_m (tb_7 (i := 219) rfl) rfl
set_option maxRecDepth 100000 in
theorem wd_1812 : am_wok (false, (Jvm.Cond.instanceMethod ({ cls := "OrderMergeModel", name := "defines", desc := "(II)I" } : Jvm.MethodName))) := wd_m (tb_7 (i := 220) rfl) rfl
set_option maxRecDepth 100000 in
theorem wd_1813 : am_wok (false, (Jvm.Cond.selects "OrderMergeModel" ({ cls := "OrderMergeModel", name := "defines", desc := "(II)I" } : Jvm.MethodName) ({ cls := "OrderMergeModel", name := "defines", desc := "(II)I" } : Jvm.MethodName))) := wd_m (tb_7 (i := 221) rfl) rfl
set_option maxRecDepth 100000 in
theorem wd_1814 : am_wok (false, (Jvm.Cond.code ({ cls := "OrderMergeModel", name := "defines", desc := "(II)I" } : Jvm.MethodName) prog_14_method_49_code (3 : Nat) (Option.some Jvm.ClassFile.FieldType.int))) := wd_m (tb_7 (i := 222) rfl) rfl
set_option maxRecDepth 100000 in
theorem wd_1815 : am_wok (false, (Jvm.Cond.methodLink "OrderMergeModel" (254 : Nat) ({ cls := "OrderMergeModel", name := "isMethod", desc := "(J)Z" } : Jvm.MethodName))) := wd_m (tb_7 (i := 223) rfl) rfl
set_option maxRecDepth 100000 in
theorem wd_1816 : am_wok (false, (Jvm.Cond.static ({ cls := "OrderMergeModel", name := "isMethod", desc := "(J)Z" } : Jvm.MethodName))) := wd_m (tb_7 (i := 224) rfl) rfl
set_option maxRecDepth 100000 in
theorem wd_1817 : am_wok (false, (Jvm.Cond.code ({ cls := "OrderMergeModel", name := "isMethod", desc := "(J)Z" } : Jvm.MethodName) prog_14_method_36_code (2 : Nat) (Option.some Jvm.ClassFile.FieldType.boolean))) := wd_m (tb_7 (i := 225) rfl) rfl
set_option maxRecDepth 100000 in
theorem wd_1818 : am_wok (false, (Jvm.Cond.constantLong "OrderMergeModel" (227 : Nat) (7 : Int64))) := wd_m (tb_7 (i := 226) rfl) rfl
set_option maxRecDepth 100000 in
theorem wd_1819 : am_wok (false, (Jvm.Cond.methodLink "OrderMergeLaw" (39 : Nat) ({ cls := "OrderMergeModel", name := "state", desc := "(I)I" } : Jvm.MethodName))) := wd_m (tb_7 (i := 227) rfl) rfl
set_option maxRecDepth 100000 in
theorem wd_1820 : am_wok (false, (Jvm.Cond.instanceMethod ({ cls := "OrderMergeModel", name := "state", desc := "(I)I" } : Jvm.MethodName))) := wd_m (tb_7 (i := 228) rfl) rfl
set_option maxRecDepth 100000 in
theorem wd_1821 : am_wok (false, (Jvm.Cond.selects "OrderMergeModel" ({ cls := "OrderMergeModel", name := "state", desc := "(I)I" } : Jvm.MethodName) ({ cls := "OrderMergeModel", name := "state", desc := "(I)I" } : Jvm.MethodName))) := wd_m (tb_7 (i := 229) rfl) rfl
set_option maxRecDepth 100000 in
theorem wd_1822 : am_wok (false, (Jvm.Cond.code ({ cls := "OrderMergeModel", name := "state", desc := "(I)I" } : Jvm.MethodName) prog_14_method_50_code (2 : Nat) (Option.some Jvm.ClassFile.FieldType.int))) := wd_m (tb_7 (i := 230) rfl) rfl
set_option maxRecDepth 100000 in
theorem wd_1823 : am_wok (false, (Jvm.Cond.methodLink "OrderMergeModel" (257 : Nat) ({ cls := "OrderMergeModel", name := "laysOrders", desc := "()V" } : Jvm.MethodName))) := wd_m (tb_7 (i := 231) rfl) rfl
set_option maxRecDepth 100000 in
theorem wd_1825 : am_wok (false, (Jvm.Cond.instanceMethod ({ cls := "OrderMergeModel", name := "laysOrders", desc := "()V" } : Jvm.MethodName))) := wd_m (tb_7 (i := 233) rfl) rfl
set_option maxRecDepth 100000 in
theorem wd_1826 : am_wok (false, (Jvm.Cond.code ({ cls := "OrderMergeModel", name := "laysOrders", desc := "()V" } : Jvm.MethodName) prog_14_method_44_code (2 : Nat) (Option.none : Option Jvm.ClassFile.FieldType))) := wd_m (tb_7 (i := 234) rfl) rfl
set_option maxRecDepth 100000 in
theorem wd_1827 : am_wok (false, (Jvm.Cond.methodLink "OrderMergeModel" (244 : Nat) ({ cls := "OrderMergeModel", name := "laysParents", desc := "(I)V" } : Jvm.MethodName))) := wd_m (tb_7 (i := 235) rfl) rfl
set_option maxRecDepth 100000 in
theorem wd_1829 : am_wok (false, (Jvm.Cond.instanceMethod ({ cls := "OrderMergeModel", name := "laysParents", desc := "(I)V" } : Jvm.MethodName))) := wd_m (tb_7 (i := 237) rfl) rfl
set_option maxRecDepth 100000 in
theorem wd_1830 : am_wok (false, (Jvm.Cond.code ({ cls := "OrderMergeModel", name := "laysParents", desc := "(I)V" } : Jvm.MethodName) prog_14_method_43_code (3 : Nat) (Option.none : Option Jvm.ClassFile.FieldType))) := wd_m (tb_7 (i := 238) rfl) rfl
set_option maxRecDepth 100000 in
theorem wd_1831 : am_wok (false, (Jvm.Cond.methodLink "OrderMergeModel" (247 : Nat) ({ cls := "OrderMergeModel", name := "laysOrder", desc := "(I)V" } : Jvm.MethodName))) := wd_m (tb_7 (i := 239) rfl) rfl
set_option maxRecDepth 100000 in
theorem wd_1833 : am_wok (false, (Jvm.Cond.instanceMethod ({ cls := "OrderMergeModel", name := "laysOrder", desc := "(I)V" } : Jvm.MethodName))) := wd_m (tb_8 (i := 1) rfl) rfl
set_option maxRecDepth 100000 in
theorem wd_1834 : am_wok (false, (Jvm.Cond.code ({ cls := "OrderMergeModel", name := "laysOrder", desc := "(I)V" } : Jvm.MethodName) prog_14_method_42_code (4 : Nat) (Option.none : Option Jvm.ClassFile.FieldType))) := wd_m (tb_8 (i := 2) rfl) rfl
set_option maxRecDepth 100000 in
theorem wd_1835 : am_wok (false, (Jvm.Cond.methodLink "OrderMergeModel" (241 : Nat) ({ cls := "OrderMergeModel", name := "merges", desc := "(I)I" } : Jvm.MethodName))) := wd_m (tb_8 (i := 3) rfl) rfl
set_option maxRecDepth 100000 in
theorem wd_1837 : am_wok (false, (Jvm.Cond.instanceMethod ({ cls := "OrderMergeModel", name := "merges", desc := "(I)I" } : Jvm.MethodName))) := wd_m (tb_8 (i := 5) rfl) rfl
set_option maxRecDepth 100000 in
theorem wd_1838 : am_wok (false, (Jvm.Cond.code ({ cls := "OrderMergeModel", name := "merges", desc := "(I)I" } : Jvm.MethodName) prog_14_method_41_code (5 : Nat) (Option.some Jvm.ClassFile.FieldType.int))) := wd_m (tb_8 (i := 6) rfl) rfl
set_option maxRecDepth 100000 in
theorem wd_1839 : am_wok (false, (Jvm.Cond.methodLink "OrderMergeModel" (235 : Nat) ({ cls := "OrderMergeModel", name := "laysRows", desc := "()V" } : Jvm.MethodName))) := wd_m (tb_8 (i := 7) rfl) rfl
set_option maxRecDepth 100000 in
theorem wd_1841 : am_wok (false, (Jvm.Cond.instanceMethod ({ cls := "OrderMergeModel", name := "laysRows", desc := "()V" } : Jvm.MethodName))) := wd_m (tb_8 (i := 9) rfl) rfl
set_option maxRecDepth 100000 in
theorem wd_1842 : am_wok (false, (Jvm.Cond.code ({ cls := "OrderMergeModel", name := "laysRows", desc := "()V" } : Jvm.MethodName) prog_14_method_39_code (3 : Nat) (Option.none : Option Jvm.ClassFile.FieldType))) := wd_m (tb_8 (i := 10) rfl) rfl
set_option maxRecDepth 100000 in
theorem wd_1843 : am_wok (false, (Jvm.Cond.methodLink "OrderMergeModel" (238 : Nat) ({ cls := "OrderMergeModel", name := "givenBy", desc := "(I)I" } : Jvm.MethodName))) := wd_m (tb_8 (i := 11) rfl) rfl
set_option maxRecDepth 100000 in
theorem wd_1845 : am_wok (false, (Jvm.Cond.instanceMethod ({ cls := "OrderMergeModel", name := "givenBy", desc := "(I)I" } : Jvm.MethodName))) := wd_m (tb_8 (i := 13) rfl) rfl
set_option maxRecDepth 100000 in
theorem wd_1846 : am_wok (false, (Jvm.Cond.code ({ cls := "OrderMergeModel", name := "givenBy", desc := "(I)I" } : Jvm.MethodName) prog_14_method_40_code (5 : Nat) (Option.some Jvm.ClassFile.FieldType.int))) := wd_m (tb_8 (i := 14) rfl) rfl
set_option maxRecDepth 100000 in
theorem wd_1847 : am_wok (false, (Jvm.Cond.methodLink "OrderMergeLaw" (43 : Nat) ({ cls := "OrderMergeModel", name := "order", desc := "(II)I" } : Jvm.MethodName))) := wd_m (tb_8 (i := 15) rfl) rfl
set_option maxRecDepth 100000 in
theorem wd_1848 : am_wok (false, (Jvm.Cond.instanceMethod ({ cls := "OrderMergeModel", name := "order", desc := "(II)I" } : Jvm.MethodName))) := wd_m (tb_8 (i := 16) rfl) rfl
set_option maxRecDepth 100000 in
theorem wd_1849 : am_wok (false, (Jvm.Cond.selects "OrderMergeModel" ({ cls := "OrderMergeModel", name := "order", desc := "(II)I" } : Jvm.MethodName) ({ cls := "OrderMergeModel", name := "order", desc := "(II)I" } : Jvm.MethodName))) := wd_m (tb_8 (i := 17) rfl) rfl
set_option maxRecDepth 100000 in
theorem wd_1850 : am_wok (false, (Jvm.Cond.code ({ cls := "OrderMergeModel", name := "order", desc := "(II)I" } : Jvm.MethodName) prog_14_method_51_code (3 : Nat) (Option.some Jvm.ClassFile.FieldType.int))) := wd_m (tb_8 (i := 18) rfl) rfl
set_option maxRecDepth 100000 in
theorem wd_1851 : am_wok (false, (Jvm.Cond.methodLink "OrderMergeLaw" (47 : Nat) ({ cls := "OrderMergeModel", name := "place", desc := "(II)I" } : Jvm.MethodName))) := wd_m (tb_8 (i := 19) rfl) rfl
set_option maxRecDepth 100000 in
theorem wd_1852 : am_wok (false, (Jvm.Cond.instanceMethod ({ cls := "OrderMergeModel", name := "place", desc := "(II)I" } : Jvm.MethodName))) := wd_m (tb_8 (i := 20) rfl) rfl
set_option maxRecDepth 100000 in
theorem wd_1853 : am_wok (false, (Jvm.Cond.selects "OrderMergeModel" ({ cls := "OrderMergeModel", name := "place", desc := "(II)I" } : Jvm.MethodName) ({ cls := "OrderMergeModel", name := "place", desc := "(II)I" } : Jvm.MethodName))) := wd_m (tb_8 (i := 21) rfl) rfl
set_option maxRecDepth 100000 in
theorem wd_1854 : am_wok (false, (Jvm.Cond.code ({ cls := "OrderMergeModel", name := "place", desc := "(II)I" } : Jvm.MethodName) prog_14_method_52_code (3 : Nat) (Option.some Jvm.ClassFile.FieldType.int))) := wd_m (tb_8 (i := 22) rfl) rfl
set_option maxRecDepth 100000 in
theorem wd_1855 : am_wok (false, (Jvm.Cond.methodLink "OrderMergeModel" (260 : Nat) ({ cls := "OrderMergeModel", name := "placeIn", desc := "(II)I" } : Jvm.MethodName))) := wd_m (tb_8 (i := 23) rfl) rfl
set_option maxRecDepth 100000 in
theorem wd_1857 : am_wok (false, (Jvm.Cond.instanceMethod ({ cls := "OrderMergeModel", name := "placeIn", desc := "(II)I" } : Jvm.MethodName))) := wd_m (tb_8 (i := 25) rfl) rfl
set_option maxRecDepth 100000 in
theorem wd_1858 : am_wok (false, (Jvm.Cond.code ({ cls := "OrderMergeModel", name := "placeIn", desc := "(II)I" } : Jvm.MethodName) prog_14_method_45_code (4 : Nat) (Option.some Jvm.ClassFile.FieldType.int))) := wd_m (tb_8 (i := 26) rfl) rfl
set_option maxRecDepth 100000 in
theorem wd_1859 : am_wok (false, (Jvm.Cond.methodLink "OrderMergeLaw" (51 : Nat) ({ cls := "OrderMergeModel", name := "above", desc := "(I)I" } : Jvm.MethodName))) := wd_m (tb_8 (i := 27) rfl) rfl
set_option maxRecDepth 100000 in
theorem wd_1860 : am_wok (false, (Jvm.Cond.instanceMethod ({ cls := "OrderMergeModel", name := "above", desc := "(I)I" } : Jvm.MethodName))) := wd_m (tb_8 (i := 28) rfl) rfl
set_option maxRecDepth 100000 in
theorem wd_1861 : am_wok (false, (Jvm.Cond.selects "OrderMergeModel" ({ cls := "OrderMergeModel", name := "above", desc := "(I)I" } : Jvm.MethodName) ({ cls := "OrderMergeModel", name := "above", desc := "(I)I" } : Jvm.MethodName))) := wd_m (tb_8 (i := 29) rfl) rfl
set_option maxRecDepth 100000 in
theorem wd_1862 : am_wok (false, (Jvm.Cond.code ({ cls := "OrderMergeModel", name := "above", desc := "(I)I" } : Jvm.MethodName) prog_14_method_54_code (2 : Nat) (Option.some Jvm.ClassFile.FieldType.int))) := wd_m (tb_8 (i := 30) rfl) rfl
set_option maxRecDepth 100000 in
theorem wd_1863 : am_wok (false, (Jvm.Cond.methodLink "OrderMergeModel" (263 : Nat) ({ cls := "OrderMergeModel", name := "aboveOf", desc := "(I)I" } : Jvm.MethodName))) := wd_m (tb_8 (i := 31) rfl) rfl
set_option maxRecDepth 100000 in
theorem wd_1865 : am_wok (false, (Jvm.Cond.instanceMethod ({ cls := "OrderMergeModel", name := "aboveOf", desc := "(I)I" } : Jvm.MethodName))) := wd_m (tb_8 (i := 33) rfl) rfl
set_option maxRecDepth 100000 in
theorem wd_1866 : am_wok (false, (Jvm.Cond.code ({ cls := "OrderMergeModel", name := "aboveOf", desc := "(I)I" } : Jvm.MethodName) prog_14_method_53_code (4 : Nat) (Option.some Jvm.ClassFile.FieldType.int))) := wd_m (tb_8 (i := 34) rfl) rfl
set_option maxRecDepth 100000 in
theorem wd_1867 : am_wok (false, (Jvm.Cond.methodLink "OrderMergeLaw" (55 : Nat) ({ cls := "OrderMergeModel", name := "below", desc := "(I)I" } : Jvm.MethodName))) := wd_m (tb_8 (i := 35) rfl) rfl
set_option maxRecDepth 100000 in
theorem wd_1868 : am_wok (false, (Jvm.Cond.instanceMethod ({ cls := "OrderMergeModel", name := "below", desc := "(I)I" } : Jvm.MethodName))) := wd_m (tb_8 (i := 36) rfl) rfl
set_option maxRecDepth 100000 in
theorem wd_1869 : am_wok (false, (Jvm.Cond.selects "OrderMergeModel" ({ cls := "OrderMergeModel", name := "below", desc := "(I)I" } : Jvm.MethodName) ({ cls := "OrderMergeModel", name := "below", desc := "(I)I" } : Jvm.MethodName))) := wd_m (tb_8 (i := 37) rfl) rfl
set_option maxRecDepth 100000 in
theorem wd_1870 : am_wok (false, (Jvm.Cond.code ({ cls := "OrderMergeModel", name := "below", desc := "(I)I" } : Jvm.MethodName) prog_14_method_55_code (4 : Nat) (Option.some Jvm.ClassFile.FieldType.int))) := wd_m (tb_8 (i := 38) rfl) rfl
set_option maxRecDepth 100000 in
theorem wd_1871 : am_wok (false, (Jvm.Cond.methodLink "OrderMergeModel" (266 : Nat) ({ cls := "OrderMergeModel", name := "isIn", desc := "(JI)Z" } : Jvm.MethodName))) := wd_m (tb_8 (i := 39) rfl) rfl
set_option maxRecDepth 100000 in
theorem wd_1872 : am_wok (false, (Jvm.Cond.static ({ cls := "OrderMergeModel", name := "isIn", desc := "(JI)Z" } : Jvm.MethodName))) := wd_m (tb_8 (i := 40) rfl) rfl
set_option maxRecDepth 100000 in
theorem wd_1873 : am_wok (false, (Jvm.Cond.code ({ cls := "OrderMergeModel", name := "isIn", desc := "(JI)Z" } : Jvm.MethodName) prog_14_method_15_code (3 : Nat) (Option.some Jvm.ClassFile.FieldType.boolean))) := wd_m (tb_8 (i := 41) rfl) rfl
set_option maxRecDepth 100000 in
theorem wd_1874 : am_wok (false, (Jvm.Cond.methodLink "OrderMergeLaw" (59 : Nat) ({ cls := "OrderMergeModel", name := "give", desc := "(II)I" } : Jvm.MethodName))) := wd_m (tb_8 (i := 42) rfl) rfl
set_option maxRecDepth 100000 in
theorem wd_1875 : am_wok (false, (Jvm.Cond.instanceMethod ({ cls := "OrderMergeModel", name := "give", desc := "(II)I" } : Jvm.MethodName))) := wd_m (tb_8 (i := 43) rfl) rfl
set_option maxRecDepth 100000 in
theorem wd_1876 : am_wok (false, (Jvm.Cond.selects "OrderMergeModel" ({ cls := "OrderMergeModel", name := "give", desc := "(II)I" } : Jvm.MethodName) ({ cls := "OrderMergeModel", name := "give", desc := "(II)I" } : Jvm.MethodName))) := wd_m (tb_8 (i := 44) rfl) rfl
set_option maxRecDepth 100000 in
theorem wd_1877 : am_wok (false, (Jvm.Cond.code ({ cls := "OrderMergeModel", name := "give", desc := "(II)I" } : Jvm.MethodName) prog_14_method_67_code (4 : Nat) (Option.some Jvm.ClassFile.FieldType.int))) := wd_m (tb_8 (i := 45) rfl) rfl
set_option maxRecDepth 100000 in
theorem wd_1878 : am_wok (false, (Jvm.Cond.methodLink "OrderMergeModel" (278 : Nat) ({ cls := "OrderMergeModel", name := "whyGive", desc := "(JJ)I" } : Jvm.MethodName))) := wd_m (tb_8 (i := 46) rfl) rfl
set_option maxRecDepth 100000 in
theorem wd_1880 : am_wok (false, (Jvm.Cond.instanceMethod ({ cls := "OrderMergeModel", name := "whyGive", desc := "(JJ)I" } : Jvm.MethodName))) := wd_m (tb_8 (i := 48) rfl) rfl
set_option maxRecDepth 100000 in
theorem wd_1881 : am_wok (false, (Jvm.Cond.code ({ cls := "OrderMergeModel", name := "whyGive", desc := "(JJ)I" } : Jvm.MethodName) prog_14_method_59_code (5 : Nat) (Option.some Jvm.ClassFile.FieldType.int))) := wd_m (tb_8 (i := 49) rfl) rfl
set_option maxRecDepth 100000 in
theorem wd_1882 : am_wok (false, (Jvm.Cond.methodLink "OrderMergeModel" (270 : Nat) ({ cls := "OrderMergeModel", name := "placeOfParent", desc := "(II)I" } : Jvm.MethodName))) := wd_m (tb_8 (i := 50) rfl) rfl
set_option maxRecDepth 100000 in
theorem wd_1884 : am_wok (false, (Jvm.Cond.instanceMethod ({ cls := "OrderMergeModel", name := "placeOfParent", desc := "(II)I" } : Jvm.MethodName))) := wd_m (tb_8 (i := 52) rfl) rfl
set_option maxRecDepth 100000 in
theorem wd_1885 : am_wok (false, (Jvm.Cond.code ({ cls := "OrderMergeModel", name := "placeOfParent", desc := "(II)I" } : Jvm.MethodName) prog_14_method_38_code (4 : Nat) (Option.some Jvm.ClassFile.FieldType.int))) := wd_m (tb_8 (i := 53) rfl) rfl
set_option maxRecDepth 100000 in
theorem wd_1886 : am_wok (false, (Jvm.Cond.methodLink "OrderMergeModel" (282 : Nat) ({ cls := "OrderMergeModel", name := "stores", desc := "()V" } : Jvm.MethodName))) := wd_m (tb_8 (i := 54) rfl) rfl
set_option maxRecDepth 100000 in
theorem wd_1888 : am_wok (false, (Jvm.Cond.instanceMethod ({ cls := "OrderMergeModel", name := "stores", desc := "()V" } : Jvm.MethodName))) := wd_m (tb_8 (i := 56) rfl) rfl
set_option maxRecDepth 100000 in
theorem wd_1889 : am_wok (false, (Jvm.Cond.code ({ cls := "OrderMergeModel", name := "stores", desc := "()V" } : Jvm.MethodName) prog_14_method_56_code (2 : Nat) (Option.none : Option Jvm.ClassFile.FieldType))) := wd_m (tb_8 (i := 57) rfl) rfl
set_option maxRecDepth 100000 in
theorem wd_1890 : am_wok (false, (Jvm.Cond.methodLink "OrderMergeModel" (285 : Nat) ({ cls := "OrderMergeModel", name := "goesGive", desc := "(II)V" } : Jvm.MethodName))) := wd_m (tb_8 (i := 58) rfl) rfl
set_option maxRecDepth 100000 in
theorem wd_1892 : am_wok (false, (Jvm.Cond.instanceMethod ({ cls := "OrderMergeModel", name := "goesGive", desc := "(II)V" } : Jvm.MethodName))) := wd_m (tb_8 (i := 60) rfl) rfl
set_option maxRecDepth 100000 in
theorem wd_1893 : am_wok (false, (Jvm.Cond.code ({ cls := "OrderMergeModel", name := "goesGive", desc := "(II)V" } : Jvm.MethodName) prog_14_method_63_code (3 : Nat) (Option.none : Option Jvm.ClassFile.FieldType))) := wd_m (tb_8 (i := 61) rfl) rfl
set_option maxRecDepth 100000 in
theorem wd_1894 : am_wok (false, (Jvm.Cond.methodLink "OrderMergeModel" (289 : Nat) ({ cls := "OrderMergeModel", name := "endsWith", desc := "(I)I" } : Jvm.MethodName))) := wd_m (tb_8 (i := 62) rfl) rfl
set_option maxRecDepth 100000 in
theorem wd_1896 : am_wok (false, (Jvm.Cond.instanceMethod ({ cls := "OrderMergeModel", name := "endsWith", desc := "(I)I" } : Jvm.MethodName))) := wd_m (tb_8 (i := 64) rfl) rfl
set_option maxRecDepth 100000 in
theorem wd_1897 : am_wok (false, (Jvm.Cond.code ({ cls := "OrderMergeModel", name := "endsWith", desc := "(I)I" } : Jvm.MethodName) prog_14_method_66_code (2 : Nat) (Option.some Jvm.ClassFile.FieldType.int))) := wd_m (tb_8 (i := 65) rfl) rfl
set_option maxRecDepth 100000 in
theorem wd_1898 : am_wok (false, (Jvm.Cond.methodLink "OrderMergeModel" (275 : Nat) ({ cls := "OrderMergeModel", name := "notes", desc := "()V" } : Jvm.MethodName))) := wd_m (tb_8 (i := 66) rfl) rfl
set_option maxRecDepth 100000 in
theorem wd_1900 : am_wok (false, (Jvm.Cond.instanceMethod ({ cls := "OrderMergeModel", name := "notes", desc := "()V" } : Jvm.MethodName))) := wd_m (tb_8 (i := 68) rfl) rfl
set_option maxRecDepth 100000 in
theorem wd_1901 : am_wok (false, (Jvm.Cond.code ({ cls := "OrderMergeModel", name := "notes", desc := "()V" } : Jvm.MethodName) prog_14_method_58_code (2 : Nat) (Option.none : Option Jvm.ClassFile.FieldType))) := wd_m (tb_8 (i := 69) rfl) rfl
set_option maxRecDepth 100000 in
theorem wd_1902 : am_wok (false, (Jvm.Cond.methodLink "OrderMergeLaw" (63 : Nat) ({ cls := "OrderMergeModel", name := "take", desc := "(II)I" } : Jvm.MethodName))) := wd_m (tb_8 (i := 70) rfl) rfl
set_option maxRecDepth 100000 in
theorem wd_1903 : am_wok (false, (Jvm.Cond.instanceMethod ({ cls := "OrderMergeModel", name := "take", desc := "(II)I" } : Jvm.MethodName))) := wd_m (tb_8 (i := 71) rfl) rfl
set_option maxRecDepth 100000 in
theorem wd_1904 : am_wok (false, (Jvm.Cond.selects "OrderMergeModel" ({ cls := "OrderMergeModel", name := "take", desc := "(II)I" } : Jvm.MethodName) ({ cls := "OrderMergeModel", name := "take", desc := "(II)I" } : Jvm.MethodName))) := wd_m (tb_8 (i := 72) rfl) rfl
set_option maxRecDepth 100000 in
theorem wd_1905 : am_wok (false, (Jvm.Cond.code ({ cls := "OrderMergeModel", name := "take", desc := "(II)I" } : Jvm.MethodName) prog_14_method_68_code (4 : Nat) (Option.some Jvm.ClassFile.FieldType.int))) := wd_m (tb_8 (i := 73) rfl) rfl
set_option maxRecDepth 100000 in
theorem wd_1906 : am_wok (false, (Jvm.Cond.methodLink "OrderMergeModel" (292 : Nat) ({ cls := "OrderMergeModel", name := "whyTake", desc := "(JJ)I" } : Jvm.MethodName))) := wd_m (tb_8 (i := 74) rfl) rfl
set_option maxRecDepth 100000 in
theorem wd_1908 : am_wok (false, (Jvm.Cond.instanceMethod ({ cls := "OrderMergeModel", name := "whyTake", desc := "(JJ)I" } : Jvm.MethodName))) := wd_m (tb_8 (i := 76) rfl) rfl
set_option maxRecDepth 100000 in
theorem wd_1909 : am_wok (false, (Jvm.Cond.code ({ cls := "OrderMergeModel", name := "whyTake", desc := "(JJ)I" } : Jvm.MethodName) prog_14_method_60_code (5 : Nat) (Option.some Jvm.ClassFile.FieldType.int))) := wd_m (tb_8 (i := 77) rfl) rfl
set_option maxRecDepth 100000 in
theorem wd_1910 : am_wok (false, (Jvm.Cond.methodLink "OrderMergeModel" (295 : Nat) ({ cls := "OrderMergeModel", name := "goesTake", desc := "(II)V" } : Jvm.MethodName))) := wd_m (tb_8 (i := 78) rfl) rfl
set_option maxRecDepth 100000 in
theorem wd_1912 : am_wok (false, (Jvm.Cond.instanceMethod ({ cls := "OrderMergeModel", name := "goesTake", desc := "(II)V" } : Jvm.MethodName))) := wd_m (tb_8 (i := 80) rfl) rfl
set_option maxRecDepth 100000 in
theorem wd_1913 : am_wok (false, (Jvm.Cond.code ({ cls := "OrderMergeModel", name := "goesTake", desc := "(II)V" } : Jvm.MethodName) prog_14_method_64_code (4 : Nat) (Option.none : Option Jvm.ClassFile.FieldType))) := wd_m (tb_8 (i := 81) rfl) rfl
set_option maxRecDepth 100000 in
theorem wd_1914 : am_wok (false, (Jvm.Cond.methodLink "OrderMergeLaw" (67 : Nat) ({ cls := "OrderMergeModel", name := "swap", desc := "(II)I" } : Jvm.MethodName))) := wd_m (tb_8 (i := 82) rfl) rfl
set_option maxRecDepth 100000 in
theorem wd_1915 : am_wok (false, (Jvm.Cond.instanceMethod ({ cls := "OrderMergeModel", name := "swap", desc := "(II)I" } : Jvm.MethodName))) := wd_m (tb_8 (i := 83) rfl) rfl
set_option maxRecDepth 100000 in
theorem wd_1916 : am_wok (false, (Jvm.Cond.selects "OrderMergeModel" ({ cls := "OrderMergeModel", name := "swap", desc := "(II)I" } : Jvm.MethodName) ({ cls := "OrderMergeModel", name := "swap", desc := "(II)I" } : Jvm.MethodName))) := wd_m (tb_8 (i := 84) rfl) rfl
set_option maxRecDepth 100000 in
theorem wd_1917 : am_wok (false, (Jvm.Cond.code ({ cls := "OrderMergeModel", name := "swap", desc := "(II)I" } : Jvm.MethodName) prog_14_method_69_code (4 : Nat) (Option.some Jvm.ClassFile.FieldType.int))) := wd_m (tb_8 (i := 85) rfl) rfl
set_option maxRecDepth 100000 in
theorem wd_1918 : am_wok (false, (Jvm.Cond.methodLink "OrderMergeModel" (298 : Nat) ({ cls := "OrderMergeModel", name := "whySwap", desc := "(JJ)I" } : Jvm.MethodName))) := wd_m (tb_8 (i := 86) rfl) rfl
set_option maxRecDepth 100000 in
theorem wd_1920 : am_wok (false, (Jvm.Cond.instanceMethod ({ cls := "OrderMergeModel", name := "whySwap", desc := "(JJ)I" } : Jvm.MethodName))) := wd_m (tb_8 (i := 88) rfl) rfl
set_option maxRecDepth 100000 in
theorem wd_1921 : am_wok (false, (Jvm.Cond.code ({ cls := "OrderMergeModel", name := "whySwap", desc := "(JJ)I" } : Jvm.MethodName) prog_14_method_61_code (5 : Nat) (Option.some Jvm.ClassFile.FieldType.int))) := wd_m (tb_8 (i := 89) rfl) rfl
set_option maxRecDepth 100000 in
theorem wd_1922 : am_wok (false, (Jvm.Cond.methodLink "OrderMergeModel" (301 : Nat) ({ cls := "OrderMergeModel", name := "goesSwap", desc := "(II)V" } : Jvm.MethodName))) := wd_m (tb_8 (i := 90) rfl) rfl
set_option maxRecDepth 100000 in
theorem wd_1924 : am_wok (false, (Jvm.Cond.instanceMethod ({ cls := "OrderMergeModel", name := "goesSwap", desc := "(II)V" } : Jvm.MethodName))) := wd_m (tb_8 (i := 92) rfl) rfl
set_option maxRecDepth 100000 in
theorem wd_1925 : am_wok (false, (Jvm.Cond.code ({ cls := "OrderMergeModel", name := "goesSwap", desc := "(II)V" } : Jvm.MethodName) prog_14_method_65_code (4 : Nat) (Option.none : Option Jvm.ClassFile.FieldType))) := wd_m (tb_8 (i := 93) rfl) rfl
set_option maxRecDepth 100000 in
theorem wd_1926 : am_wok (false, (Jvm.Cond.methodLink "OrderMergeLaw" (72 : Nat) ({ cls := "OrderMergeModel", name := "define", desc := "(III)I" } : Jvm.MethodName))) := wd_m (tb_8 (i := 94) rfl) rfl
set_option maxRecDepth 100000 in
theorem wd_1927 : am_wok (false, (Jvm.Cond.instanceMethod ({ cls := "OrderMergeModel", name := "define", desc := "(III)I" } : Jvm.MethodName))) := wd_m (tb_8 (i := 95) rfl) rfl
set_option maxRecDepth 100000 in
theorem wd_1928 : am_wok (false, (Jvm.Cond.selects "OrderMergeModel" ({ cls := "OrderMergeModel", name := "define", desc := "(III)I" } : Jvm.MethodName) ({ cls := "OrderMergeModel", name := "define", desc := "(III)I" } : Jvm.MethodName))) := wd_m (tb_8 (i := 96) rfl) rfl
set_option maxRecDepth 100000 in
theorem wd_1929 : am_wok (false, (Jvm.Cond.code ({ cls := "OrderMergeModel", name := "define", desc := "(III)I" } : Jvm.MethodName) prog_14_method_70_code (5 : Nat) (Option.some Jvm.ClassFile.FieldType.int))) := wd_m (tb_8 (i := 97) rfl) rfl
set_option maxRecDepth 100000 in
theorem wd_1930 : am_wok (false, (Jvm.Cond.methodLink "OrderMergeModel" (304 : Nat) ({ cls := "OrderMergeModel", name := "whyDefine", desc := "(JJJ)I" } : Jvm.MethodName))) := wd_m (tb_8 (i := 98) rfl) rfl
set_option maxRecDepth 100000 in
theorem wd_1932 : am_wok (false, (Jvm.Cond.instanceMethod ({ cls := "OrderMergeModel", name := "whyDefine", desc := "(JJJ)I" } : Jvm.MethodName))) := wd_m (tb_8 (i := 100) rfl) rfl
set_option maxRecDepth 100000 in
theorem wd_1933 : am_wok (false, (Jvm.Cond.code ({ cls := "OrderMergeModel", name := "whyDefine", desc := "(JJJ)I" } : Jvm.MethodName) prog_14_method_62_code (7 : Nat) (Option.some Jvm.ClassFile.FieldType.int))) := wd_m (tb_8 (i := 101) rfl) rfl
set_option maxRecDepth 100000 in
theorem wd_1934 : am_wok (false, (Jvm.Cond.constantLong "OrderMergeModel" (273 : Nat) (2 : Int64))) := wd_m (tb_8 (i := 102) rfl) rfl
set_option maxRecDepth 100000 in
theorem wd_1935 : am_wok (false, (Jvm.Cond.methodLink "OrderMergeLaw" (76 : Nat) ({ cls := "OrderMergeModel", name := "mood", desc := "(I)I" } : Jvm.MethodName))) := wd_m (tb_8 (i := 103) rfl) rfl
set_option maxRecDepth 100000 in
theorem wd_1936 : am_wok (false, (Jvm.Cond.instanceMethod ({ cls := "OrderMergeModel", name := "mood", desc := "(I)I" } : Jvm.MethodName))) := wd_m (tb_8 (i := 104) rfl) rfl
set_option maxRecDepth 100000 in
theorem wd_1937 : am_wok (false, (Jvm.Cond.selects "OrderMergeModel" ({ cls := "OrderMergeModel", name := "mood", desc := "(I)I" } : Jvm.MethodName) ({ cls := "OrderMergeModel", name := "mood", desc := "(I)I" } : Jvm.MethodName))) := wd_m (tb_8 (i := 105) rfl) rfl
set_option maxRecDepth 100000 in
theorem wd_1938 : am_wok (false, (Jvm.Cond.code ({ cls := "OrderMergeModel", name := "mood", desc := "(I)I" } : Jvm.MethodName) prog_14_method_71_code (2 : Nat) (Option.some Jvm.ClassFile.FieldType.int))) := wd_m (tb_8 (i := 106) rfl) rfl
set_option maxRecDepth 100000 in
theorem wd_1939 : am_wok (false, (Jvm.Cond.constantLong "OrderMergeModel" (308 : Nat) (9 : Int64))) := wd_m (tb_8 (i := 107) rfl) rfl
set_option maxRecDepth 100000 in
theorem wd_1940 : am_wok (false, (Jvm.Cond.methodLink "OrderMergeLaw" (80 : Nat) ({ cls := "OrderMergeModel", name := "undo", desc := "(I)I" } : Jvm.MethodName))) := wd_m (tb_8 (i := 108) rfl) rfl
set_option maxRecDepth 100000 in
theorem wd_1941 : am_wok (false, (Jvm.Cond.instanceMethod ({ cls := "OrderMergeModel", name := "undo", desc := "(I)I" } : Jvm.MethodName))) := wd_m (tb_8 (i := 109) rfl) rfl
set_option maxRecDepth 100000 in
theorem wd_1942 : am_wok (false, (Jvm.Cond.selects "OrderMergeModel" ({ cls := "OrderMergeModel", name := "undo", desc := "(I)I" } : Jvm.MethodName) ({ cls := "OrderMergeModel", name := "undo", desc := "(I)I" } : Jvm.MethodName))) := wd_m (tb_8 (i := 110) rfl) rfl
set_option maxRecDepth 100000 in
theorem wd_1943 : am_wok (false, (Jvm.Cond.code ({ cls := "OrderMergeModel", name := "undo", desc := "(I)I" } : Jvm.MethodName) prog_14_method_72_code (3 : Nat) (Option.some Jvm.ClassFile.FieldType.int))) := wd_m (tb_8 (i := 111) rfl) rfl
set_option maxRecDepth 100000 in
theorem wd_1944 : am_wok (false, (Jvm.Cond.constantLong "OrderMergeModel" (310 : Nat) (10 : Int64))) := wd_m (tb_8 (i := 112) rfl) rfl
set_option maxRecDepth 100000 in
theorem wd_1945 : am_wok (false, (Jvm.Cond.methodLink "OrderMergeLaw" (84 : Nat) ({ cls := "OrderMergeModel", name := "judge", desc := "(II)I" } : Jvm.MethodName))) := wd_m (tb_8 (i := 113) rfl) rfl
set_option maxRecDepth 100000 in
theorem wd_1946 : am_wok (false, (Jvm.Cond.instanceMethod ({ cls := "OrderMergeModel", name := "judge", desc := "(II)I" } : Jvm.MethodName))) := wd_m (tb_8 (i := 114) rfl) rfl
set_option maxRecDepth 100000 in
theorem wd_1947 : am_wok (false, (Jvm.Cond.selects "OrderMergeModel" ({ cls := "OrderMergeModel", name := "judge", desc := "(II)I" } : Jvm.MethodName) ({ cls := "OrderMergeModel", name := "judge", desc := "(II)I" } : Jvm.MethodName))) := wd_m (tb_8 (i := 115) rfl) rfl
set_option maxRecDepth 100000 in
theorem wd_1948 : am_wok (false, (Jvm.Cond.code ({ cls := "OrderMergeModel", name := "judge", desc := "(II)I" } : Jvm.MethodName) prog_14_method_78_code (7 : Nat) (Option.some Jvm.ClassFile.FieldType.int))) := wd_m (tb_8 (i := 116) rfl) rfl
set_option maxRecDepth 100000 in
theorem wd_1949 : am_wok (false, (Jvm.Cond.constantLong "OrderMergeModel" (340 : Nat) (3 : Int64))) := wd_m (tb_8 (i := 117) rfl) rfl
set_option maxRecDepth 100000 in
theorem wd_1950 : am_wok (false, (Jvm.Cond.methodLink "OrderMergeModel" (342 : Nat) ({ cls := "OrderMergeModel", name := "noTray", desc := "(I)I" } : Jvm.MethodName))) := wd_m (tb_8 (i := 118) rfl) rfl
set_option maxRecDepth 100000 in
theorem wd_1952 : am_wok (false, (Jvm.Cond.instanceMethod ({ cls := "OrderMergeModel", name := "noTray", desc := "(I)I" } : Jvm.MethodName))) := wd_m (tb_8 (i := 120) rfl) rfl
set_option maxRecDepth 100000 in
theorem wd_1953 : am_wok (false, (Jvm.Cond.code ({ cls := "OrderMergeModel", name := "noTray", desc := "(I)I" } : Jvm.MethodName) prog_14_method_76_code (2 : Nat) (Option.some Jvm.ClassFile.FieldType.int))) := wd_m (tb_8 (i := 121) rfl) rfl
set_option maxRecDepth 100000 in
theorem wd_1954 : am_wok (false, (Jvm.Cond.methodLink "OrderMergeModel" (345 : Nat) ({ cls := "OrderMergeModel", name := "tells", desc := "(I)I" } : Jvm.MethodName))) := wd_m (tb_8 (i := 122) rfl) rfl
set_option maxRecDepth 100000 in
theorem wd_1956 : am_wok (false, (Jvm.Cond.instanceMethod ({ cls := "OrderMergeModel", name := "tells", desc := "(I)I" } : Jvm.MethodName))) := wd_m (tb_8 (i := 124) rfl) rfl
set_option maxRecDepth 100000 in
theorem wd_1957 : am_wok (false, (Jvm.Cond.code ({ cls := "OrderMergeModel", name := "tells", desc := "(I)I" } : Jvm.MethodName) prog_14_method_75_code (3 : Nat) (Option.some Jvm.ClassFile.FieldType.int))) := wd_m (tb_8 (i := 125) rfl) rfl
set_option maxRecDepth 100000 in
theorem wd_1958 : am_wok (false, (Jvm.Cond.methodLink "OrderMergeModel" (333 : Nat) ({ cls := "OrderMergeModel", name := "whyNot", desc := "(J)I" } : Jvm.MethodName))) := wd_m (tb_8 (i := 126) rfl) rfl
set_option maxRecDepth 100000 in
theorem wd_1960 : am_wok (false, (Jvm.Cond.instanceMethod ({ cls := "OrderMergeModel", name := "whyNot", desc := "(J)I" } : Jvm.MethodName))) := wd_m (tb_8 (i := 128) rfl) rfl
set_option maxRecDepth 100000 in
theorem wd_1961 : am_wok (false, (Jvm.Cond.code ({ cls := "OrderMergeModel", name := "whyNot", desc := "(J)I" } : Jvm.MethodName) prog_14_method_73_code (3 : Nat) (Option.some Jvm.ClassFile.FieldType.int))) := wd_m (tb_8 (i := 129) rfl) rfl
set_option maxRecDepth 100000 in
theorem wd_1962 : am_wok (false, (Jvm.Cond.constantLong "OrderMergeModel" (312 : Nat) (19 : Int64))) := wd_m (tb_8 (i := 130) rfl) rfl
set_option maxRecDepth 100000 in
theorem wd_1963 : am_wok (false, (Jvm.Cond.constantLong "OrderMergeModel" (314 : Nat) (100 : Int64))) := wd_m (tb_8 (i := 131) rfl) rfl
set_option maxRecDepth 100000 in
theorem wd_1964 : am_wok (false, (Jvm.Cond.constantLong "OrderMergeModel" (316 : Nat) (199 : Int64))) := wd_m (tb_8 (i := 132) rfl) rfl
set_option maxRecDepth 100000 in
theorem wd_1965 : am_wok (false, (Jvm.Cond.constantLong "OrderMergeModel" (318 : Nat) (200 : Int64))) := wd_m (tb_8 (i := 133) rfl) rfl
set_option maxRecDepth 100000 in
theorem wd_1966 : am_wok (false, (Jvm.Cond.constantLong "OrderMergeModel" (320 : Nat) (299 : Int64))) := wd_m (tb_8 (i := 134) rfl) rfl
set_option maxRecDepth 100000 in
theorem wd_1967 : am_wok (false, (Jvm.Cond.constantLong "OrderMergeModel" (322 : Nat) (300 : Int64))) := wd_m (tb_8 (i := 135) rfl) rfl
set_option maxRecDepth 100000 in
theorem wd_1968 : am_wok (false, (Jvm.Cond.constantLong "OrderMergeModel" (324 : Nat) (399 : Int64))) := wd_m (tb_8 (i := 136) rfl) rfl
set_option maxRecDepth 100000 in
theorem wd_1969 : am_wok (false, (Jvm.Cond.constantLong "OrderMergeModel" (326 : Nat) (1000 : Int64))) := wd_m (tb_8 (i := 137) rfl) rfl
set_option maxRecDepth 100000 in
theorem wd_1970 : am_wok (false, (Jvm.Cond.constantLong "OrderMergeModel" (328 : Nat) (1299 : Int64))) := wd_m (tb_8 (i := 138) rfl) rfl
set_option maxRecDepth 100000 in
theorem wd_1971 : am_wok (false, (Jvm.Cond.methodLink "OrderMergeModel" (337 : Nat) ({ cls := "OrderMergeModel", name := "does", desc := "(I)V" } : Jvm.MethodName))) := wd_m (tb_8 (i := 139) rfl) rfl
set_option maxRecDepth 100000 in
theorem wd_1973 : am_wok (false, (Jvm.Cond.instanceMethod ({ cls := "OrderMergeModel", name := "does", desc := "(I)V" } : Jvm.MethodName))) := wd_m (tb_8 (i := 141) rfl) rfl
set_option maxRecDepth 100000 in
theorem wd_1974 : am_wok (false, (Jvm.Cond.code ({ cls := "OrderMergeModel", name := "does", desc := "(I)V" } : Jvm.MethodName) prog_14_method_74_code (3 : Nat) (Option.none : Option Jvm.ClassFile.FieldType))) := wd_m (tb_8 (i := 142) rfl) rfl
set_option maxRecDepth 100000 in
theorem wd_1975 : am_wok (false, (Jvm.Cond.methodLink "OrderMergeModel" (348 : Nat) ({ cls := "OrderMergeModel", name := "statesOf", desc := "(I)I" } : Jvm.MethodName))) := wd_m (tb_8 (i := 143) rfl) rfl
set_option maxRecDepth 100000 in
theorem wd_1977 : am_wok (false, (Jvm.Cond.instanceMethod ({ cls := "OrderMergeModel", name := "statesOf", desc := "(I)I" } : Jvm.MethodName))) := wd_m (tb_8 (i := 145) rfl) rfl
set_option maxRecDepth 100000 in
theorem wd_1978 : am_wok (false, (Jvm.Cond.code ({ cls := "OrderMergeModel", name := "statesOf", desc := "(I)I" } : Jvm.MethodName) prog_14_method_46_code (4 : Nat) (Option.some Jvm.ClassFile.FieldType.int))) := wd_m (tb_8 (i := 146) rfl) rfl
set_option maxRecDepth 100000 in
theorem wd_1979 : am_wok (false, (Jvm.Cond.methodLink "OrderMergeModel" (351 : Nat) ({ cls := "OrderMergeModel", name := "links", desc := "()I" } : Jvm.MethodName))) := wd_m (tb_8 (i := 147) rfl) rfl
set_option maxRecDepth 100000 in
theorem wd_1981 : am_wok (false, (Jvm.Cond.instanceMethod ({ cls := "OrderMergeModel", name := "links", desc := "()I" } : Jvm.MethodName))) := wd_m (tb_8 (i := 149) rfl) rfl
set_option maxRecDepth 100000 in
theorem wd_1982 : am_wok (false, (Jvm.Cond.code ({ cls := "OrderMergeModel", name := "links", desc := "()I" } : Jvm.MethodName) prog_14_method_77_code (3 : Nat) (Option.some Jvm.ClassFile.FieldType.int))) := wd_m (tb_8 (i := 150) rfl) rfl
set_option maxRecDepth 100000 in
theorem wd_1983 : am_wok (false, (Jvm.Cond.methodLink "OrderMergeModel" (354 : Nat) ({ cls := "OrderMergeModel", name := "isAgain", desc := "()V" } : Jvm.MethodName))) := wd_m (tb_8 (i := 151) rfl) rfl
set_option maxRecDepth 100000 in
theorem wd_1985 : am_wok (false, (Jvm.Cond.instanceMethod ({ cls := "OrderMergeModel", name := "isAgain", desc := "()V" } : Jvm.MethodName))) := wd_m (tb_8 (i := 153) rfl) rfl
set_option maxRecDepth 100000 in
theorem wd_1986 : am_wok (false, (Jvm.Cond.code ({ cls := "OrderMergeModel", name := "isAgain", desc := "()V" } : Jvm.MethodName) prog_14_method_57_code (2 : Nat) (Option.none : Option Jvm.ClassFile.FieldType))) := wd_m (tb_8 (i := 154) rfl) rfl
set_option maxRecDepth 100000 in
theorem wd_1987 : am_wok (false, (Jvm.Cond.methodLink "OrderMergeLaw" (88 : Nat) ({ cls := "OrderMergeModel", name := "perform", desc := "(I)I" } : Jvm.MethodName))) := wd_m (tb_8 (i := 155) rfl) rfl
set_option maxRecDepth 100000 in
theorem wd_1988 : am_wok (false, (Jvm.Cond.instanceMethod ({ cls := "OrderMergeModel", name := "perform", desc := "(I)I" } : Jvm.MethodName))) := wd_m (tb_8 (i := 156) rfl) rfl
set_option maxRecDepth 100000 in
theorem wd_1989 : am_wok (false, (Jvm.Cond.selects "OrderMergeModel" ({ cls := "OrderMergeModel", name := "perform", desc := "(I)I" } : Jvm.MethodName) ({ cls := "OrderMergeModel", name := "perform", desc := "(I)I" } : Jvm.MethodName))) := wd_m (tb_8 (i := 157) rfl) rfl
set_option maxRecDepth 100000 in
theorem wd_1990 : am_wok (false, (Jvm.Cond.code ({ cls := "OrderMergeModel", name := "perform", desc := "(I)I" } : Jvm.MethodName) prog_14_method_79_code (4 : Nat) (Option.some Jvm.ClassFile.FieldType.int))) := wd_m (tb_8 (i := 158) rfl) rfl
set_option maxRecDepth 100000 in
theorem wd_1991 : am_wok (false, (Jvm.Cond.methodLink "OrderMergeLaw" (92 : Nat) ({ cls := "OrderMergeModel", name := "day", desc := "(II)I" } : Jvm.MethodName))) := wd_m (tb_8 (i := 159) rfl) rfl
set_option maxRecDepth 100000 in
theorem wd_1992 : am_wok (false, (Jvm.Cond.instanceMethod ({ cls := "OrderMergeModel", name := "day", desc := "(II)I" } : Jvm.MethodName))) := wd_m (tb_8 (i := 160) rfl) rfl
set_option maxRecDepth 100000 in
theorem wd_1993 : am_wok (false, (Jvm.Cond.selects "OrderMergeModel" ({ cls := "OrderMergeModel", name := "day", desc := "(II)I" } : Jvm.MethodName) ({ cls := "OrderMergeModel", name := "day", desc := "(II)I" } : Jvm.MethodName))) := wd_m (tb_8 (i := 161) rfl) rfl
set_option maxRecDepth 100000 in
theorem wd_1994 : am_wok (false, (Jvm.Cond.code ({ cls := "OrderMergeModel", name := "day", desc := "(II)I" } : Jvm.MethodName) prog_14_method_82_code (6 : Nat) (Option.some Jvm.ClassFile.FieldType.int))) := wd_m (tb_8 (i := 162) rfl) rfl
set_option maxRecDepth 100000 in
theorem wd_1995 : am_wok (false, (Jvm.Cond.constantLong "OrderMergeModel" (364 : Nat) (40 : Int64))) := wd_m (tb_8 (i := 163) rfl) rfl
set_option maxRecDepth 100000 in
theorem wd_1996 : am_wok (false, (Jvm.Cond.methodLink "OrderMergeModel" (366 : Nat) ({ cls := "OrderMergeModel", name := "drawn", desc := "()I" } : Jvm.MethodName))) := wd_m (tb_8 (i := 164) rfl) rfl
set_option maxRecDepth 100000 in
theorem wd_1998 : am_wok (false, (Jvm.Cond.instanceMethod ({ cls := "OrderMergeModel", name := "drawn", desc := "()I" } : Jvm.MethodName))) := wd_m (tb_8 (i := 166) rfl) rfl
set_option maxRecDepth 100000 in
theorem wd_1999 : am_wok (false, (Jvm.Cond.code ({ cls := "OrderMergeModel", name := "drawn", desc := "()I" } : Jvm.MethodName) prog_14_method_81_code (2 : Nat) (Option.some Jvm.ClassFile.FieldType.int))) := wd_m (tb_8 (i := 167) rfl) rfl
set_option maxRecDepth 100000 in
theorem wd_2000 : am_wok (false, (Jvm.Cond.methodLink "OrderMergeModel" (361 : Nat) ({ cls := "OrderMergeModel", name := "draw", desc := "(I)I" } : Jvm.MethodName))) := wd_m (tb_8 (i := 168) rfl) rfl
set_option maxRecDepth 100000 in
theorem wd_2002 : am_wok (false, (Jvm.Cond.instanceMethod ({ cls := "OrderMergeModel", name := "draw", desc := "(I)I" } : Jvm.MethodName))) := wd_m (tb_8 (i := 170) rfl) rfl
set_option maxRecDepth 100000 in
theorem wd_2003 : am_wok (false, (Jvm.Cond.code ({ cls := "OrderMergeModel", name := "draw", desc := "(I)I" } : Jvm.MethodName) prog_14_method_80_code (2 : Nat) (Option.some Jvm.ClassFile.FieldType.int))) := wd_m (tb_8 (i := 171) rfl) rfl
set_option maxRecDepth 100000 in
theorem wd_2004 : am_wok (false, (Jvm.Cond.constant "OrderMergeModel" (357 : Nat) (1103515245 : Int32))) := wd_m (tb_8 (i := 172) rfl) rfl
set_option maxRecDepth 100000 in
theorem wd_2005 : am_wok (false, (Jvm.Cond.methodLink "OrderMergeLaw" (96 : Nat) ({ cls := "OrderMergeModel", name := "demands", desc := "(I)I" } : Jvm.MethodName))) := wd_m (tb_8 (i := 173) rfl) rfl
set_option maxRecDepth 100000 in
theorem wd_2006 : am_wok (false, (Jvm.Cond.instanceMethod ({ cls := "OrderMergeModel", name := "demands", desc := "(I)I" } : Jvm.MethodName))) := wd_m (tb_8 (i := 174) rfl) rfl
set_option maxRecDepth 100000 in
theorem wd_2007 : am_wok (false, (Jvm.Cond.selects "OrderMergeModel" ({ cls := "OrderMergeModel", name := "demands", desc := "(I)I" } : Jvm.MethodName) ({ cls := "OrderMergeModel", name := "demands", desc := "(I)I" } : Jvm.MethodName))) := wd_m (tb_8 (i := 175) rfl) rfl
set_option maxRecDepth 100000 in
theorem wd_2008 : am_wok (false, (Jvm.Cond.code ({ cls := "OrderMergeModel", name := "demands", desc := "(I)I" } : Jvm.MethodName) prog_14_method_86_code (5 : Nat) (Option.some Jvm.ClassFile.FieldType.int))) := wd_m (tb_8 (i := 176) rfl) rfl
set_option maxRecDepth 100000 in
theorem wd_2009 : am_wok (false, (Jvm.Cond.methodLink "OrderMergeModel" (375 : Nat) ({ cls := "OrderMergeModel", name := "noDemands", desc := "(I)I" } : Jvm.MethodName))) := wd_m (tb_8 (i := 177) rfl) rfl
set_option maxRecDepth 100000 in
theorem wd_2011 : am_wok (false, (Jvm.Cond.instanceMethod ({ cls := "OrderMergeModel", name := "noDemands", desc := "(I)I" } : Jvm.MethodName))) := wd_m (tb_8 (i := 179) rfl) rfl
set_option maxRecDepth 100000 in
theorem wd_2012 : am_wok (false, (Jvm.Cond.code ({ cls := "OrderMergeModel", name := "noDemands", desc := "(I)I" } : Jvm.MethodName) prog_14_method_85_code (2 : Nat) (Option.some Jvm.ClassFile.FieldType.int))) := wd_m (tb_8 (i := 180) rfl) rfl
set_option maxRecDepth 100000 in
theorem wd_2013 : am_wok (false, (Jvm.Cond.methodLink "OrderMergeModel" (372 : Nat) ({ cls := "OrderMergeModel", name := "laysDemands", desc := "(I)V" } : Jvm.MethodName))) := wd_m (tb_8 (i := 181) rfl) rfl
set_option maxRecDepth 100000 in
theorem wd_2015 : am_wok (false, (Jvm.Cond.instanceMethod ({ cls := "OrderMergeModel", name := "laysDemands", desc := "(I)V" } : Jvm.MethodName))) := wd_m (tb_8 (i := 183) rfl) rfl
set_option maxRecDepth 100000 in
theorem wd_2016 : am_wok (false, (Jvm.Cond.code ({ cls := "OrderMergeModel", name := "laysDemands", desc := "(I)V" } : Jvm.MethodName) prog_14_method_84_code (3 : Nat) (Option.none : Option Jvm.ClassFile.FieldType))) := wd_m (tb_8 (i := 184) rfl) rfl
set_option maxRecDepth 100000 in
theorem wd_2017 : am_wok (false, (Jvm.Cond.methodLink "OrderMergeModel" (369 : Nat) ({ cls := "OrderMergeModel", name := "demandsRow", desc := "(II)V" } : Jvm.MethodName))) := wd_m (tb_8 (i := 185) rfl) rfl
set_option maxRecDepth 100000 in
theorem wd_2019 : am_wok (false, (Jvm.Cond.instanceMethod ({ cls := "OrderMergeModel", name := "demandsRow", desc := "(II)V" } : Jvm.MethodName))) := wd_m (tb_8 (i := 187) rfl) rfl
set_option maxRecDepth 100000 in
theorem wd_2020 : am_wok (false, (Jvm.Cond.code ({ cls := "OrderMergeModel", name := "demandsRow", desc := "(II)V" } : Jvm.MethodName) prog_14_method_83_code (5 : Nat) (Option.none : Option Jvm.ClassFile.FieldType))) := wd_m (tb_8 (i := 188) rfl) rfl
set_option maxRecDepth 100000 in
theorem wd_2021 : am_wok (false, (Jvm.Cond.methodLink "OrderMergeModel" (378 : Nat) ({ cls := "OrderMergeModel", name := "bitsOf", desc := "(I)I" } : Jvm.MethodName))) := wd_m (tb_8 (i := 189) rfl) rfl
set_option maxRecDepth 100000 in
theorem wd_2022 : am_wok (false, (Jvm.Cond.static ({ cls := "OrderMergeModel", name := "bitsOf", desc := "(I)I" } : Jvm.MethodName))) := wd_m (tb_8 (i := 190) rfl) rfl
set_option maxRecDepth 100000 in
theorem wd_2023 : am_wok (false, (Jvm.Cond.code ({ cls := "OrderMergeModel", name := "bitsOf", desc := "(I)I" } : Jvm.MethodName) prog_14_method_47_code (3 : Nat) (Option.some Jvm.ClassFile.FieldType.int))) := wd_m (tb_8 (i := 191) rfl) rfl
set_option maxRecDepth 100000 in
theorem wd_2024 : am_wok (false, (Jvm.Cond.methodLink "OrderMergeLaw" (100 : Nat) ({ cls := "OrderMergeModel", name := "demand", desc := "(II)I" } : Jvm.MethodName))) := wd_m (tb_8 (i := 192) rfl) rfl
set_option maxRecDepth 100000 in
theorem wd_2025 : am_wok (false, (Jvm.Cond.instanceMethod ({ cls := "OrderMergeModel", name := "demand", desc := "(II)I" } : Jvm.MethodName))) := wd_m (tb_8 (i := 193) rfl) rfl
set_option maxRecDepth 100000 in
theorem wd_2026 : am_wok (false, (Jvm.Cond.selects "OrderMergeModel" ({ cls := "OrderMergeModel", name := "demand", desc := "(II)I" } : Jvm.MethodName) ({ cls := "OrderMergeModel", name := "demand", desc := "(II)I" } : Jvm.MethodName))) := wd_m (tb_8 (i := 194) rfl) rfl
set_option maxRecDepth 100000 in
theorem wd_2027 : am_wok (false, (Jvm.Cond.code ({ cls := "OrderMergeModel", name := "demand", desc := "(II)I" } : Jvm.MethodName) prog_14_method_87_code (5 : Nat) (Option.some Jvm.ClassFile.FieldType.int))) := wd_m (tb_8 (i := 195) rfl) rfl
set_option maxRecDepth 100000 in
theorem wd_2028 : am_wok (false, (Jvm.Cond.methodLink "OrderMergeLaw" (104 : Nat) ({ cls := "OrderMergeModel", name := "ring", desc := "(II)I" } : Jvm.MethodName))) := wd_m (tb_8 (i := 196) rfl) rfl
set_option maxRecDepth 100000 in
theorem wd_2029 : am_wok (false, (Jvm.Cond.instanceMethod ({ cls := "OrderMergeModel", name := "ring", desc := "(II)I" } : Jvm.MethodName))) := wd_m (tb_8 (i := 197) rfl) rfl
set_option maxRecDepth 100000 in
theorem wd_2030 : am_wok (false, (Jvm.Cond.selects "OrderMergeModel" ({ cls := "OrderMergeModel", name := "ring", desc := "(II)I" } : Jvm.MethodName) ({ cls := "OrderMergeModel", name := "ring", desc := "(II)I" } : Jvm.MethodName))) := wd_m (tb_8 (i := 198) rfl) rfl
set_option maxRecDepth 100000 in
theorem wd_2031 : am_wok (false, (Jvm.Cond.code ({ cls := "OrderMergeModel", name := "ring", desc := "(II)I" } : Jvm.MethodName) prog_14_method_90_code (3 : Nat) (Option.some Jvm.ClassFile.FieldType.int))) := wd_m (tb_8 (i := 199) rfl) rfl
set_option maxRecDepth 100000 in
theorem wd_2032 : am_wok (false, (Jvm.Cond.methodLink "OrderMergeModel" (385 : Nat) ({ cls := "OrderMergeModel", name := "laysRing", desc := "()I" } : Jvm.MethodName))) := wd_m (tb_8 (i := 200) rfl) rfl
set_option maxRecDepth 100000 in
theorem wd_2034 : am_wok (false, (Jvm.Cond.instanceMethod ({ cls := "OrderMergeModel", name := "laysRing", desc := "()I" } : Jvm.MethodName))) := wd_m (tb_8 (i := 202) rfl) rfl
set_option maxRecDepth 100000 in
theorem wd_2035 : am_wok (false, (Jvm.Cond.code ({ cls := "OrderMergeModel", name := "laysRing", desc := "()I" } : Jvm.MethodName) prog_14_method_89_code (3 : Nat) (Option.some Jvm.ClassFile.FieldType.int))) := wd_m (tb_8 (i := 203) rfl) rfl
set_option maxRecDepth 100000 in
theorem wd_2036 : am_wok (false, (Jvm.Cond.methodLink "OrderMergeModel" (381 : Nat) ({ cls := "OrderMergeModel", name := "isRing", desc := "(III)Z" } : Jvm.MethodName))) := wd_m (tb_8 (i := 204) rfl) rfl
set_option maxRecDepth 100000 in
theorem wd_2038 : am_wok (false, (Jvm.Cond.instanceMethod ({ cls := "OrderMergeModel", name := "isRing", desc := "(III)Z" } : Jvm.MethodName))) := wd_m (tb_8 (i := 206) rfl) rfl
set_option maxRecDepth 100000 in
theorem wd_2039 : am_wok (false, (Jvm.Cond.code ({ cls := "OrderMergeModel", name := "isRing", desc := "(III)Z" } : Jvm.MethodName) prog_14_method_88_code (6 : Nat) (Option.some Jvm.ClassFile.FieldType.boolean))) := wd_m (tb_8 (i := 207) rfl) rfl
set_option maxRecDepth 100000 in
theorem wd_2040 : am_wok (false, (Jvm.Cond.methodLink "OrderMergeLaw" (108 : Nat) ({ cls := "OrderMergeModel", name := "ways", desc := "(I)I" } : Jvm.MethodName))) := wd_m (tb_8 (i := 208) rfl) rfl
set_option maxRecDepth 100000 in
theorem wd_2041 : am_wok (false, (Jvm.Cond.instanceMethod ({ cls := "OrderMergeModel", name := "ways", desc := "(I)I" } : Jvm.MethodName))) := wd_m (tb_8 (i := 209) rfl) rfl
set_option maxRecDepth 100000 in
theorem wd_2042 : am_wok (false, (Jvm.Cond.selects "OrderMergeModel" ({ cls := "OrderMergeModel", name := "ways", desc := "(I)I" } : Jvm.MethodName) ({ cls := "OrderMergeModel", name := "ways", desc := "(I)I" } : Jvm.MethodName))) := wd_m (tb_8 (i := 210) rfl) rfl
set_option maxRecDepth 100000 in
theorem wd_2043 : am_wok (false, (Jvm.Cond.code ({ cls := "OrderMergeModel", name := "ways", desc := "(I)I" } : Jvm.MethodName) prog_14_method_93_code (3 : Nat) (Option.some Jvm.ClassFile.FieldType.int))) := wd_m (tb_8 (i := 211) rfl) rfl
set_option maxRecDepth 100000 in
theorem wd_2044 : am_wok (false, (Jvm.Cond.methodLink "OrderMergeModel" (391 : Nat) ({ cls := "OrderMergeModel", name := "laysWays", desc := "(I)V" } : Jvm.MethodName))) := wd_m (tb_8 (i := 212) rfl) rfl
set_option maxRecDepth 100000 in
theorem wd_2046 : am_wok (false, (Jvm.Cond.instanceMethod ({ cls := "OrderMergeModel", name := "laysWays", desc := "(I)V" } : Jvm.MethodName))) := wd_m (tb_8 (i := 214) rfl) rfl
set_option maxRecDepth 100000 in
theorem wd_2047 : am_wok (false, (Jvm.Cond.code ({ cls := "OrderMergeModel", name := "laysWays", desc := "(I)V" } : Jvm.MethodName) prog_14_method_92_code (5 : Nat) (Option.none : Option Jvm.ClassFile.FieldType))) := wd_m (tb_8 (i := 215) rfl) rfl
set_option maxRecDepth 100000 in
theorem wd_2048 : am_wok (false, (Jvm.Cond.methodLink "OrderMergeModel" (388 : Nat) ({ cls := "OrderMergeModel", name := "canStand", desc := "(III)Z" } : Jvm.MethodName))) := wd_m (tb_8 (i := 216) rfl) rfl
set_option maxRecDepth 100000 in
theorem wd_2050 : am_wok (false, (Jvm.Cond.instanceMethod ({ cls := "OrderMergeModel", name := "canStand", desc := "(III)Z" } : Jvm.MethodName))) := wd_m (tb_8 (i := 218) rfl) rfl
set_option maxRecDepth 100000 in
theorem wd_2051 : am_wok (false, (Jvm.Cond.code ({ cls := "OrderMergeModel", name := "canStand", desc := "(III)Z" } : Jvm.MethodName) prog_14_method_91_code (5 : Nat) (Option.some Jvm.ClassFile.FieldType.boolean))) := wd_m (tb_8 (i := 219) rfl) rfl
set_option maxRecDepth 100000 in
theorem wd_2052 : am_wok (false, (Jvm.Cond.methodLink "OrderMergeLaw" (112 : Nat) ({ cls := "OrderMergeModel", name := "rank", desc := "(I)I" } : Jvm.MethodName))) := wd_m (tb_8 (i := 220) rfl) rfl
set_option maxRecDepth 100000 in
theorem wd_2053 : am_wok (false, (Jvm.Cond.instanceMethod ({ cls := "OrderMergeModel", name := "rank", desc := "(I)I" } : Jvm.MethodName))) := wd_m (tb_8 (i := 221) rfl) rfl
set_option maxRecDepth 100000 in
theorem wd_2054 : am_wok (false, (Jvm.Cond.selects "OrderMergeModel" ({ cls := "OrderMergeModel", name := "rank", desc := "(I)I" } : Jvm.MethodName) ({ cls := "OrderMergeModel", name := "rank", desc := "(I)I" } : Jvm.MethodName))) := wd_m (tb_8 (i := 222) rfl) rfl
set_option maxRecDepth 100000 in
theorem wd_2055 : am_wok (false, (Jvm.Cond.code ({ cls := "OrderMergeModel", name := "rank", desc := "(I)I" } : Jvm.MethodName) prog_14_method_94_code (9 : Nat) (Option.some Jvm.ClassFile.FieldType.int))) := wd_m (tb_8 (i := 223) rfl) rfl
set_option maxRecDepth 100000 in
theorem wd_2056 : am_wok (false, (Jvm.Cond.methodLink "OrderMergeLaw" (116 : Nat) ({ cls := "OrderMergeModel", name := "old", desc := "(III)I" } : Jvm.MethodName))) := wd_m (tb_8 (i := 224) rfl) rfl
set_option maxRecDepth 100000 in
theorem wd_2057 : am_wok (false, (Jvm.Cond.instanceMethod ({ cls := "OrderMergeModel", name := "old", desc := "(III)I" } : Jvm.MethodName))) := wd_m (tb_8 (i := 225) rfl) rfl
set_option maxRecDepth 100000 in
theorem wd_2058 : am_wok (false, (Jvm.Cond.selects "OrderMergeModel" ({ cls := "OrderMergeModel", name := "old", desc := "(III)I" } : Jvm.MethodName) ({ cls := "OrderMergeModel", name := "old", desc := "(III)I" } : Jvm.MethodName))) := wd_m (tb_8 (i := 226) rfl) rfl
set_option maxRecDepth 100000 in
theorem wd_2059 : am_wok (false, (Jvm.Cond.code ({ cls := "OrderMergeModel", name := "old", desc := "(III)I" } : Jvm.MethodName) prog_14_method_100_code (4 : Nat) (Option.some Jvm.ClassFile.FieldType.int))) := wd_m (tb_8 (i := 227) rfl) rfl
set_option maxRecDepth 100000 in
theorem wd_2060 : am_wok (false, (Jvm.Cond.methodLink "OrderMergeModel" (403 : Nat) ({ cls := "OrderMergeModel", name := "isKind", desc := "(I)Z" } : Jvm.MethodName))) := wd_m (tb_8 (i := 228) rfl) rfl
set_option maxRecDepth 100000 in
theorem wd_2061 : am_wok (false, (Jvm.Cond.static ({ cls := "OrderMergeModel", name := "isKind", desc := "(I)Z" } : Jvm.MethodName))) := wd_m (tb_8 (i := 229) rfl) rfl
set_option maxRecDepth 100000 in
theorem wd_2062 : am_wok (false, (Jvm.Cond.code ({ cls := "OrderMergeModel", name := "isKind", desc := "(I)Z" } : Jvm.MethodName) prog_14_method_99_code (1 : Nat) (Option.some Jvm.ClassFile.FieldType.boolean))) := wd_m (tb_8 (i := 230) rfl) rfl
set_option maxRecDepth 100000 in
theorem wd_2063 : am_wok (false, (Jvm.Cond.methodLink "OrderMergeModel" (406 : Nat) ({ cls := "OrderMergeModel", name := "laysOld", desc := "(II)V" } : Jvm.MethodName))) := wd_m (tb_8 (i := 231) rfl) rfl
set_option maxRecDepth 100000 in
theorem wd_2065 : am_wok (false, (Jvm.Cond.instanceMethod ({ cls := "OrderMergeModel", name := "laysOld", desc := "(II)V" } : Jvm.MethodName))) := wd_m (tb_8 (i := 233) rfl) rfl
set_option maxRecDepth 100000 in
theorem wd_2066 : am_wok (false, (Jvm.Cond.code ({ cls := "OrderMergeModel", name := "laysOld", desc := "(II)V" } : Jvm.MethodName) prog_14_method_97_code (7 : Nat) (Option.none : Option Jvm.ClassFile.FieldType))) := wd_m (tb_8 (i := 234) rfl) rfl
set_option maxRecDepth 100000 in
theorem wd_2067 : am_wok (false, (Jvm.Cond.methodLink "OrderMergeModel" (400 : Nat) ({ cls := "OrderMergeModel", name := "laysBroad", desc := "(I)V" } : Jvm.MethodName))) := wd_m (tb_8 (i := 235) rfl) rfl
set_option maxRecDepth 100000 in
theorem wd_2069 : am_wok (false, (Jvm.Cond.instanceMethod ({ cls := "OrderMergeModel", name := "laysBroad", desc := "(I)V" } : Jvm.MethodName))) := wd_m (tb_8 (i := 237) rfl) rfl
set_option maxRecDepth 100000 in
theorem wd_2070 : am_wok (false, (Jvm.Cond.code ({ cls := "OrderMergeModel", name := "laysBroad", desc := "(I)V" } : Jvm.MethodName) prog_14_method_98_code (6 : Nat) (Option.none : Option Jvm.ClassFile.FieldType))) := wd_m (tb_8 (i := 238) rfl) rfl
set_option maxRecDepth 100000 in
theorem wd_2071 : am_wok (false, (Jvm.Cond.methodLink "OrderMergeModel" (397 : Nat) ({ cls := "OrderMergeModel", name := "goesDeep", desc := "(I)V" } : Jvm.MethodName))) := wd_m (tb_8 (i := 239) rfl) rfl
set_option maxRecDepth 100000 in
theorem wd_2073 : am_wok (false, (Jvm.Cond.instanceMethod ({ cls := "OrderMergeModel", name := "goesDeep", desc := "(I)V" } : Jvm.MethodName))) := wd_m (tb_9 (i := 1) rfl) rfl
set_option maxRecDepth 100000 in
theorem wd_2074 : am_wok (false, (Jvm.Cond.code ({ cls := "OrderMergeModel", name := "goesDeep", desc := "(I)V" } : Jvm.MethodName) prog_14_method_95_code (3 : Nat) (Option.none : Option Jvm.ClassFile.FieldType))) := wd_m (tb_9 (i := 2) rfl) rfl
set_option maxRecDepth 100000 in
theorem wd_2075 : am_wok (false, (Jvm.Cond.methodLink "OrderMergeLaw" (120 : Nat) ({ cls := "OrderMergeModel", name := "breaks", desc := "(II)I" } : Jvm.MethodName))) := wd_m (tb_9 (i := 3) rfl) rfl
set_option maxRecDepth 100000 in
theorem wd_2076 : am_wok (false, (Jvm.Cond.instanceMethod ({ cls := "OrderMergeModel", name := "breaks", desc := "(II)I" } : Jvm.MethodName))) := wd_m (tb_9 (i := 4) rfl) rfl
set_option maxRecDepth 100000 in
theorem wd_2077 : am_wok (false, (Jvm.Cond.selects "OrderMergeModel" ({ cls := "OrderMergeModel", name := "breaks", desc := "(II)I" } : Jvm.MethodName) ({ cls := "OrderMergeModel", name := "breaks", desc := "(II)I" } : Jvm.MethodName))) := wd_m (tb_9 (i := 5) rfl) rfl
set_option maxRecDepth 100000 in
theorem wd_2078 : am_wok (false, (Jvm.Cond.code ({ cls := "OrderMergeModel", name := "breaks", desc := "(II)I" } : Jvm.MethodName) prog_14_method_101_code (5 : Nat) (Option.some Jvm.ClassFile.FieldType.int))) := wd_m (tb_9 (i := 6) rfl) rfl
set_option maxRecDepth 100000 in
theorem wd_2079 : am_wok (false, (Jvm.Cond.methodLink "OrderMergeModel" (409 : Nat) ({ cls := "OrderMergeModel", name := "placeOld", desc := "(I)I" } : Jvm.MethodName))) := wd_m (tb_9 (i := 7) rfl) rfl
set_option maxRecDepth 100000 in
theorem wd_2081 : am_wok (false, (Jvm.Cond.instanceMethod ({ cls := "OrderMergeModel", name := "placeOld", desc := "(I)I" } : Jvm.MethodName))) := wd_m (tb_9 (i := 9) rfl) rfl
set_option maxRecDepth 100000 in
theorem wd_2082 : am_wok (false, (Jvm.Cond.code ({ cls := "OrderMergeModel", name := "placeOld", desc := "(I)I" } : Jvm.MethodName) prog_14_method_96_code (3 : Nat) (Option.some Jvm.ClassFile.FieldType.int))) := wd_m (tb_9 (i := 10) rfl) rfl
set_option maxRecDepth 100000 in
theorem wd_2083 : am_wok (false, (Jvm.Cond.methodLink "OrderMergeLaw" (124 : Nat) ({ cls := "OrderMergeModel", name := "same", desc := "(I)I" } : Jvm.MethodName))) := wd_m (tb_9 (i := 11) rfl) rfl
set_option maxRecDepth 100000 in
theorem wd_2084 : am_wok (false, (Jvm.Cond.instanceMethod ({ cls := "OrderMergeModel", name := "same", desc := "(I)I" } : Jvm.MethodName))) := wd_m (tb_9 (i := 12) rfl) rfl
set_option maxRecDepth 100000 in
theorem wd_2085 : am_wok (false, (Jvm.Cond.selects "OrderMergeModel" ({ cls := "OrderMergeModel", name := "same", desc := "(I)I" } : Jvm.MethodName) ({ cls := "OrderMergeModel", name := "same", desc := "(I)I" } : Jvm.MethodName))) := wd_m (tb_9 (i := 13) rfl) rfl
set_option maxRecDepth 100000 in
theorem wd_2086 : am_wok (false, (Jvm.Cond.code ({ cls := "OrderMergeModel", name := "same", desc := "(I)I" } : Jvm.MethodName) prog_14_method_102_code (6 : Nat) (Option.some Jvm.ClassFile.FieldType.int))) := wd_m (tb_9 (i := 14) rfl) rfl
set_option maxRecDepth 100000 in
theorem wd_2087 : am_wok (false, (Jvm.Cond.methodLink "OrderMergeLaw" (128 : Nat) ({ cls := "OrderMergeModel", name := "call", desc := "(II)I" } : Jvm.MethodName))) := wd_m (tb_9 (i := 15) rfl) rfl
set_option maxRecDepth 100000 in
theorem wd_2088 : am_wok (false, (Jvm.Cond.instanceMethod ({ cls := "OrderMergeModel", name := "call", desc := "(II)I" } : Jvm.MethodName))) := wd_m (tb_9 (i := 16) rfl) rfl
set_option maxRecDepth 100000 in
theorem wd_2089 : am_wok (false, (Jvm.Cond.selects "OrderMergeModel" ({ cls := "OrderMergeModel", name := "call", desc := "(II)I" } : Jvm.MethodName) ({ cls := "OrderMergeModel", name := "call", desc := "(II)I" } : Jvm.MethodName))) := wd_m (tb_9 (i := 17) rfl) rfl
set_option maxRecDepth 100000 in
theorem wd_2090 : am_wok (false, (Jvm.Cond.code ({ cls := "OrderMergeModel", name := "call", desc := "(II)I" } : Jvm.MethodName) prog_14_method_110_code (3 : Nat) (Option.some Jvm.ClassFile.FieldType.int))) := wd_m (tb_9 (i := 18) rfl) rfl
set_option maxRecDepth 100000 in
theorem wd_2091 : am_wok (false, (Jvm.Cond.constant "OrderMergeModel" (441 : Nat) (-99000002 : Int32))) := wd_m (tb_9 (i := 19) rfl) rfl
set_option maxRecDepth 100000 in
theorem wd_2092 : am_wok (false, (Jvm.Cond.constant "OrderMergeModel" (442 : Nat) (-99000005 : Int32))) := wd_m (tb_9 (i := 20) rfl) rfl
set_option maxRecDepth 100000 in
theorem wd_2093 : am_wok (false, (Jvm.Cond.methodLink "OrderMergeModel" (443 : Nat) ({ cls := "OrderMergeModel", name := "saysOf", desc := "(III)I" } : Jvm.MethodName))) := wd_m (tb_9 (i := 21) rfl) rfl
set_option maxRecDepth 100000 in
theorem wd_2095 : am_wok (false, (Jvm.Cond.instanceMethod ({ cls := "OrderMergeModel", name := "saysOf", desc := "(III)I" } : Jvm.MethodName))) := wd_m (tb_9 (i := 23) rfl) rfl
set_option maxRecDepth 100000 in
theorem wd_2096 : am_wok (false, (Jvm.Cond.code ({ cls := "OrderMergeModel", name := "saysOf", desc := "(III)I" } : Jvm.MethodName) prog_14_method_109_code (6 : Nat) (Option.some Jvm.ClassFile.FieldType.int))) := wd_m (tb_9 (i := 24) rfl) rfl
set_option maxRecDepth 100000 in
theorem wd_2097 : am_wok (false, (Jvm.Cond.methodLink "OrderMergeModel" (436 : Nat) ({ cls := "OrderMergeModel", name := "laysCall", desc := "(III)V" } : Jvm.MethodName))) := wd_m (tb_9 (i := 25) rfl) rfl
set_option maxRecDepth 100000 in
theorem wd_2099 : am_wok (false, (Jvm.Cond.instanceMethod ({ cls := "OrderMergeModel", name := "laysCall", desc := "(III)V" } : Jvm.MethodName))) := wd_m (tb_9 (i := 27) rfl) rfl
set_option maxRecDepth 100000 in
theorem wd_2100 : am_wok (false, (Jvm.Cond.code ({ cls := "OrderMergeModel", name := "laysCall", desc := "(III)V" } : Jvm.MethodName) prog_14_method_108_code (6 : Nat) (Option.none : Option Jvm.ClassFile.FieldType))) := wd_m (tb_9 (i := 28) rfl) rfl
set_option maxRecDepth 100000 in
theorem wd_2101 : am_wok (false, (Jvm.Cond.methodLink "OrderMergeModel" (432 : Nat) ({ cls := "OrderMergeModel", name := "isSeen", desc := "(IIII)Z" } : Jvm.MethodName))) := wd_m (tb_9 (i := 29) rfl) rfl
set_option maxRecDepth 100000 in
theorem wd_2103 : am_wok (false, (Jvm.Cond.instanceMethod ({ cls := "OrderMergeModel", name := "isSeen", desc := "(IIII)Z" } : Jvm.MethodName))) := wd_m (tb_9 (i := 31) rfl) rfl
set_option maxRecDepth 100000 in
theorem wd_2104 : am_wok (false, (Jvm.Cond.code ({ cls := "OrderMergeModel", name := "isSeen", desc := "(IIII)Z" } : Jvm.MethodName) prog_14_method_107_code (5 : Nat) (Option.some Jvm.ClassFile.FieldType.boolean))) := wd_m (tb_9 (i := 32) rfl) rfl
set_option maxRecDepth 100000 in
theorem wd_2105 : am_wok (false, (Jvm.Cond.methodLink "OrderMergeModel" (422 : Nat) ({ cls := "OrderMergeModel", name := "laysWords", desc := "(IIII)V" } : Jvm.MethodName))) := wd_m (tb_9 (i := 33) rfl) rfl
set_option maxRecDepth 100000 in
theorem wd_2107 : am_wok (false, (Jvm.Cond.instanceMethod ({ cls := "OrderMergeModel", name := "laysWords", desc := "(IIII)V" } : Jvm.MethodName))) := wd_m (tb_9 (i := 35) rfl) rfl
set_option maxRecDepth 100000 in
theorem wd_2108 : am_wok (false, (Jvm.Cond.code ({ cls := "OrderMergeModel", name := "laysWords", desc := "(IIII)V" } : Jvm.MethodName) prog_14_method_106_code (5 : Nat) (Option.none : Option Jvm.ClassFile.FieldType))) := wd_m (tb_9 (i := 36) rfl) rfl
set_option maxRecDepth 100000 in
theorem wd_2109 : am_wok (false, (Jvm.Cond.methodLink "OrderMergeModel" (426 : Nat) ({ cls := "OrderMergeModel", name := "reckons", desc := "(I)I" } : Jvm.MethodName))) := wd_m (tb_9 (i := 37) rfl) rfl
set_option maxRecDepth 100000 in
theorem wd_2111 : am_wok (false, (Jvm.Cond.instanceMethod ({ cls := "OrderMergeModel", name := "reckons", desc := "(I)I" } : Jvm.MethodName))) := wd_m (tb_9 (i := 39) rfl) rfl
set_option maxRecDepth 100000 in
theorem wd_2112 : am_wok (false, (Jvm.Cond.code ({ cls := "OrderMergeModel", name := "reckons", desc := "(I)I" } : Jvm.MethodName) prog_14_method_105_code (5 : Nat) (Option.some Jvm.ClassFile.FieldType.int))) := wd_m (tb_9 (i := 40) rfl) rfl
set_option maxRecDepth 100000 in
theorem wd_2113 : am_wok (false, (Jvm.Cond.methodLink "OrderMergeModel" (419 : Nat) ({ cls := "OrderMergeModel", name := "between", desc := "(III)I" } : Jvm.MethodName))) := wd_m (tb_9 (i := 41) rfl) rfl
set_option maxRecDepth 100000 in
theorem wd_2114 : am_wok (false, (Jvm.Cond.static ({ cls := "OrderMergeModel", name := "between", desc := "(III)I" } : Jvm.MethodName))) := wd_m (tb_9 (i := 42) rfl) rfl
set_option maxRecDepth 100000 in
theorem wd_2115 : am_wok (false, (Jvm.Cond.code ({ cls := "OrderMergeModel", name := "between", desc := "(III)I" } : Jvm.MethodName) prog_14_method_104_code (3 : Nat) (Option.some Jvm.ClassFile.FieldType.int))) := wd_m (tb_9 (i := 43) rfl) rfl
set_option maxRecDepth 100000 in
theorem wd_2116 : am_wok (false, (Jvm.Cond.methodLink "OrderMergeModel" (416 : Nat) ({ cls := "OrderMergeModel", name := "keptIn", desc := "(J)I" } : Jvm.MethodName))) := wd_m (tb_9 (i := 44) rfl) rfl
set_option maxRecDepth 100000 in
theorem wd_2117 : am_wok (false, (Jvm.Cond.static ({ cls := "OrderMergeModel", name := "keptIn", desc := "(J)I" } : Jvm.MethodName))) := wd_m (tb_9 (i := 45) rfl) rfl
set_option maxRecDepth 100000 in
theorem wd_2118 : am_wok (false, (Jvm.Cond.code ({ cls := "OrderMergeModel", name := "keptIn", desc := "(J)I" } : Jvm.MethodName) prog_14_method_103_code (2 : Nat) (Option.some Jvm.ClassFile.FieldType.int))) := wd_m (tb_9 (i := 46) rfl) rfl
set_option maxRecDepth 100000 in
theorem wd_2119 : am_wok (false, (Jvm.Cond.constantLong "OrderMergeModel" (412 : Nat) (1000000 : Int64))) := wd_m (tb_9 (i := 47) rfl) rfl
set_option maxRecDepth 100000 in
theorem wd_2120 : am_wok (false, (Jvm.Cond.constantLong "OrderMergeModel" (414 : Nat) (-1000000 : Int64))) := wd_m (tb_9 (i := 48) rfl) rfl
set_option maxRecDepth 100000 in
theorem wd_2121 : am_wok (false, (Jvm.Cond.constant "OrderMergeModel" (440 : Nat) (-99000001 : Int32))) := wd_m (tb_9 (i := 49) rfl) rfl
set_option maxRecDepth 100000 in
theorem wd_2122 : am_wok (false, (Jvm.Cond.methodLink "OrderMergeLaw" (132 : Nat) ({ cls := "OrderMergeModel", name := "through", desc := "(III)I" } : Jvm.MethodName))) := wd_m (tb_9 (i := 50) rfl) rfl
set_option maxRecDepth 100000 in
theorem wd_2123 : am_wok (false, (Jvm.Cond.instanceMethod ({ cls := "OrderMergeModel", name := "through", desc := "(III)I" } : Jvm.MethodName))) := wd_m (tb_9 (i := 51) rfl) rfl
set_option maxRecDepth 100000 in
theorem wd_2124 : am_wok (false, (Jvm.Cond.selects "OrderMergeModel" ({ cls := "OrderMergeModel", name := "through", desc := "(III)I" } : Jvm.MethodName) ({ cls := "OrderMergeModel", name := "through", desc := "(III)I" } : Jvm.MethodName))) := wd_m (tb_9 (i := 52) rfl) rfl
set_option maxRecDepth 100000 in
theorem wd_2125 : am_wok (false, (Jvm.Cond.code ({ cls := "OrderMergeModel", name := "through", desc := "(III)I" } : Jvm.MethodName) prog_14_method_111_code (4 : Nat) (Option.some Jvm.ClassFile.FieldType.int))) := wd_m (tb_9 (i := 53) rfl) rfl
set_option maxRecDepth 100000 in
theorem wd_2126 : am_wok (false, (Jvm.Cond.methodLink "OrderMergeLaw" (136 : Nat) ({ cls := "OrderMergeModel", name := "serves", desc := "(II)I" } : Jvm.MethodName))) := wd_m (tb_9 (i := 54) rfl) rfl
set_option maxRecDepth 100000 in
theorem wd_2127 : am_wok (false, (Jvm.Cond.instanceMethod ({ cls := "OrderMergeModel", name := "serves", desc := "(II)I" } : Jvm.MethodName))) := wd_m (tb_9 (i := 55) rfl) rfl
set_option maxRecDepth 100000 in
theorem wd_2128 : am_wok (false, (Jvm.Cond.selects "OrderMergeModel" ({ cls := "OrderMergeModel", name := "serves", desc := "(II)I" } : Jvm.MethodName) ({ cls := "OrderMergeModel", name := "serves", desc := "(II)I" } : Jvm.MethodName))) := wd_m (tb_9 (i := 56) rfl) rfl
set_option maxRecDepth 100000 in
theorem wd_2129 : am_wok (false, (Jvm.Cond.code ({ cls := "OrderMergeModel", name := "serves", desc := "(II)I" } : Jvm.MethodName) prog_14_method_112_code (5 : Nat) (Option.some Jvm.ClassFile.FieldType.int))) := wd_m (tb_9 (i := 57) rfl) rfl
set_option maxRecDepth 100000 in
theorem wd_2130 : am_wok (false, (Jvm.Cond.methodLink "OrderMergeLaw" (141 : Nat) ({ cls := "OrderMergeModel", name := "dead", desc := "()I" } : Jvm.MethodName))) := wd_m (tb_9 (i := 58) rfl) rfl
set_option maxRecDepth 100000 in
theorem wd_2131 : am_wok (false, (Jvm.Cond.instanceMethod ({ cls := "OrderMergeModel", name := "dead", desc := "()I" } : Jvm.MethodName))) := wd_m (tb_9 (i := 59) rfl) rfl
set_option maxRecDepth 100000 in
theorem wd_2132 : am_wok (false, (Jvm.Cond.selects "OrderMergeModel" ({ cls := "OrderMergeModel", name := "dead", desc := "()I" } : Jvm.MethodName) ({ cls := "OrderMergeModel", name := "dead", desc := "()I" } : Jvm.MethodName))) := wd_m (tb_9 (i := 60) rfl) rfl
set_option maxRecDepth 100000 in
theorem wd_2133 : am_wok (false, (Jvm.Cond.code ({ cls := "OrderMergeModel", name := "dead", desc := "()I" } : Jvm.MethodName) prog_14_method_114_code (1 : Nat) (Option.some Jvm.ClassFile.FieldType.int))) := wd_m (tb_9 (i := 61) rfl) rfl
set_option maxRecDepth 100000 in
theorem wd_2134 : am_wok (false, (Jvm.Cond.methodLink "OrderMergeModel" (446 : Nat) ({ cls := "OrderMergeModel", name := "deadOnes", desc := "(Z)I" } : Jvm.MethodName))) := wd_m (tb_9 (i := 62) rfl) rfl
set_option maxRecDepth 100000 in
theorem wd_2136 : am_wok (false, (Jvm.Cond.instanceMethod ({ cls := "OrderMergeModel", name := "deadOnes", desc := "(Z)I" } : Jvm.MethodName))) := wd_m (tb_9 (i := 64) rfl) rfl
set_option maxRecDepth 100000 in
theorem wd_2137 : am_wok (false, (Jvm.Cond.code ({ cls := "OrderMergeModel", name := "deadOnes", desc := "(Z)I" } : Jvm.MethodName) prog_14_method_113_code (8 : Nat) (Option.some Jvm.ClassFile.FieldType.int))) := wd_m (tb_9 (i := 65) rfl) rfl
set_option maxRecDepth 100000 in
theorem wd_2138 : am_wok (false, (Jvm.Cond.methodLink "OrderMergeLaw" (145 : Nat) ({ cls := "OrderMergeModel", name := "firstDead", desc := "()I" } : Jvm.MethodName))) := wd_m (tb_9 (i := 66) rfl) rfl
set_option maxRecDepth 100000 in
theorem wd_2139 : am_wok (false, (Jvm.Cond.instanceMethod ({ cls := "OrderMergeModel", name := "firstDead", desc := "()I" } : Jvm.MethodName))) := wd_m (tb_9 (i := 67) rfl) rfl
set_option maxRecDepth 100000 in
theorem wd_2140 : am_wok (false, (Jvm.Cond.selects "OrderMergeModel" ({ cls := "OrderMergeModel", name := "firstDead", desc := "()I" } : Jvm.MethodName) ({ cls := "OrderMergeModel", name := "firstDead", desc := "()I" } : Jvm.MethodName))) := wd_m (tb_9 (i := 68) rfl) rfl
set_option maxRecDepth 100000 in
theorem wd_2141 : am_wok (false, (Jvm.Cond.code ({ cls := "OrderMergeModel", name := "firstDead", desc := "()I" } : Jvm.MethodName) prog_14_method_115_code (1 : Nat) (Option.some Jvm.ClassFile.FieldType.int))) := wd_m (tb_9 (i := 69) rfl) rfl
set_option maxRecDepth 100000 in
theorem wd_2142 : am_wok (false, (Jvm.Cond.methodLink "OrderMergeLaw" (149 : Nat) ({ cls := "OrderMergeModel", name := "common", desc := "(II)I" } : Jvm.MethodName))) := wd_m (tb_9 (i := 70) rfl) rfl
set_option maxRecDepth 100000 in
theorem wd_2143 : am_wok (false, (Jvm.Cond.instanceMethod ({ cls := "OrderMergeModel", name := "common", desc := "(II)I" } : Jvm.MethodName))) := wd_m (tb_9 (i := 71) rfl) rfl
set_option maxRecDepth 100000 in
theorem wd_2144 : am_wok (false, (Jvm.Cond.selects "OrderMergeModel" ({ cls := "OrderMergeModel", name := "common", desc := "(II)I" } : Jvm.MethodName) ({ cls := "OrderMergeModel", name := "common", desc := "(II)I" } : Jvm.MethodName))) := wd_m (tb_9 (i := 72) rfl) rfl
set_option maxRecDepth 100000 in
theorem wd_2145 : am_wok (false, (Jvm.Cond.code ({ cls := "OrderMergeModel", name := "common", desc := "(II)I" } : Jvm.MethodName) prog_14_method_116_code (4 : Nat) (Option.some Jvm.ClassFile.FieldType.int))) := wd_m (tb_9 (i := 73) rfl) rfl
set_option maxRecDepth 100000 in
theorem wd_2146 : am_wok (false, (Jvm.Cond.methodLink "OrderMergeLaw" (153 : Nat) ({ cls := "OrderMergeModel", name := "would", desc := "(I)I" } : Jvm.MethodName))) := wd_m (tb_9 (i := 74) rfl) rfl
set_option maxRecDepth 100000 in
theorem wd_2147 : am_wok (false, (Jvm.Cond.instanceMethod ({ cls := "OrderMergeModel", name := "would", desc := "(I)I" } : Jvm.MethodName))) := wd_m (tb_9 (i := 75) rfl) rfl
set_option maxRecDepth 100000 in
theorem wd_2148 : am_wok (false, (Jvm.Cond.selects "OrderMergeModel" ({ cls := "OrderMergeModel", name := "would", desc := "(I)I" } : Jvm.MethodName) ({ cls := "OrderMergeModel", name := "would", desc := "(I)I" } : Jvm.MethodName))) := wd_m (tb_9 (i := 76) rfl) rfl
set_option maxRecDepth 100000 in
theorem wd_2149 : am_wok (false, (Jvm.Cond.code ({ cls := "OrderMergeModel", name := "would", desc := "(I)I" } : Jvm.MethodName) prog_14_method_119_code (3 : Nat) (Option.some Jvm.ClassFile.FieldType.int))) := wd_m (tb_9 (i := 77) rfl) rfl
set_option maxRecDepth 100000 in
theorem wd_2150 : am_wok (false, (Jvm.Cond.methodLink "OrderMergeModel" (450 : Nat) ({ cls := "OrderMergeModel", name := "noWould", desc := "(I)I" } : Jvm.MethodName))) := wd_m (tb_9 (i := 78) rfl) rfl
set_option maxRecDepth 100000 in
theorem wd_2152 : am_wok (false, (Jvm.Cond.instanceMethod ({ cls := "OrderMergeModel", name := "noWould", desc := "(I)I" } : Jvm.MethodName))) := wd_m (tb_9 (i := 80) rfl) rfl
set_option maxRecDepth 100000 in
theorem wd_2153 : am_wok (false, (Jvm.Cond.code ({ cls := "OrderMergeModel", name := "noWould", desc := "(I)I" } : Jvm.MethodName) prog_14_method_117_code (7 : Nat) (Option.some Jvm.ClassFile.FieldType.int))) := wd_m (tb_9 (i := 81) rfl) rfl
set_option maxRecDepth 100000 in
theorem wd_2154 : am_wok (false, (Jvm.Cond.methodLink "OrderMergeModel" (453 : Nat) ({ cls := "OrderMergeModel", name := "laysWould", desc := "(I)I" } : Jvm.MethodName))) := wd_m (tb_9 (i := 82) rfl) rfl
set_option maxRecDepth 100000 in
theorem wd_2156 : am_wok (false, (Jvm.Cond.instanceMethod ({ cls := "OrderMergeModel", name := "laysWould", desc := "(I)I" } : Jvm.MethodName))) := wd_m (tb_9 (i := 84) rfl) rfl
set_option maxRecDepth 100000 in
theorem wd_2157 : am_wok (false, (Jvm.Cond.code ({ cls := "OrderMergeModel", name := "laysWould", desc := "(I)I" } : Jvm.MethodName) prog_14_method_118_code (3 : Nat) (Option.some Jvm.ClassFile.FieldType.int))) := wd_m (tb_9 (i := 85) rfl) rfl
set_option maxRecDepth 100000 in
theorem wd_2158 : am_wok (false, (Jvm.Cond.methodLink "OrderMergeLaw" (157 : Nat) ({ cls := "OrderMergeModel", name := "wouldOrder", desc := "(II)I" } : Jvm.MethodName))) := wd_m (tb_9 (i := 86) rfl) rfl
set_option maxRecDepth 100000 in
theorem wd_2159 : am_wok (false, (Jvm.Cond.instanceMethod ({ cls := "OrderMergeModel", name := "wouldOrder", desc := "(II)I" } : Jvm.MethodName))) := wd_m (tb_9 (i := 87) rfl) rfl
set_option maxRecDepth 100000 in
theorem wd_2160 : am_wok (false, (Jvm.Cond.selects "OrderMergeModel" ({ cls := "OrderMergeModel", name := "wouldOrder", desc := "(II)I" } : Jvm.MethodName) ({ cls := "OrderMergeModel", name := "wouldOrder", desc := "(II)I" } : Jvm.MethodName))) := wd_m (tb_9 (i := 88) rfl) rfl
set_option maxRecDepth 100000 in
theorem wd_2161 : am_wok (false, (Jvm.Cond.code ({ cls := "OrderMergeModel", name := "wouldOrder", desc := "(II)I" } : Jvm.MethodName) prog_14_method_120_code (4 : Nat) (Option.some Jvm.ClassFile.FieldType.int))) := wd_m (tb_9 (i := 89) rfl) rfl
set_option maxRecDepth 100000 in
theorem wd_2162 : am_wok (false, (Jvm.Cond.methodLink "OrderMergeLaw" (161 : Nat) ({ cls := "OrderMergeModel", name := "wouldWays", desc := "(I)I" } : Jvm.MethodName))) := wd_m (tb_9 (i := 90) rfl) rfl
set_option maxRecDepth 100000 in
theorem wd_2163 : am_wok (false, (Jvm.Cond.instanceMethod ({ cls := "OrderMergeModel", name := "wouldWays", desc := "(I)I" } : Jvm.MethodName))) := wd_m (tb_9 (i := 91) rfl) rfl
set_option maxRecDepth 100000 in
theorem wd_2164 : am_wok (false, (Jvm.Cond.selects "OrderMergeModel" ({ cls := "OrderMergeModel", name := "wouldWays", desc := "(I)I" } : Jvm.MethodName) ({ cls := "OrderMergeModel", name := "wouldWays", desc := "(I)I" } : Jvm.MethodName))) := wd_m (tb_9 (i := 92) rfl) rfl
set_option maxRecDepth 100000 in
theorem wd_2165 : am_wok (false, (Jvm.Cond.code ({ cls := "OrderMergeModel", name := "wouldWays", desc := "(I)I" } : Jvm.MethodName) prog_14_method_123_code (3 : Nat) (Option.some Jvm.ClassFile.FieldType.int))) := wd_m (tb_9 (i := 93) rfl) rfl
set_option maxRecDepth 100000 in
theorem wd_2166 : am_wok (false, (Jvm.Cond.methodLink "OrderMergeModel" (459 : Nat) ({ cls := "OrderMergeModel", name := "wouldFrom", desc := "(I)I" } : Jvm.MethodName))) := wd_m (tb_9 (i := 94) rfl) rfl
set_option maxRecDepth 100000 in
theorem wd_2168 : am_wok (false, (Jvm.Cond.instanceMethod ({ cls := "OrderMergeModel", name := "wouldFrom", desc := "(I)I" } : Jvm.MethodName))) := wd_m (tb_9 (i := 96) rfl) rfl
set_option maxRecDepth 100000 in
theorem wd_2169 : am_wok (false, (Jvm.Cond.code ({ cls := "OrderMergeModel", name := "wouldFrom", desc := "(I)I" } : Jvm.MethodName) prog_14_method_121_code (4 : Nat) (Option.some Jvm.ClassFile.FieldType.int))) := wd_m (tb_9 (i := 97) rfl) rfl
set_option maxRecDepth 100000 in
theorem wd_2170 : am_wok (false, (Jvm.Cond.methodLink "OrderMergeModel" (456 : Nat) ({ cls := "OrderMergeModel", name := "trades", desc := "(II)V" } : Jvm.MethodName))) := wd_m (tb_9 (i := 98) rfl) rfl
set_option maxRecDepth 100000 in
theorem wd_2172 : am_wok (false, (Jvm.Cond.instanceMethod ({ cls := "OrderMergeModel", name := "trades", desc := "(II)V" } : Jvm.MethodName))) := wd_m (tb_9 (i := 100) rfl) rfl
set_option maxRecDepth 100000 in
theorem wd_2173 : am_wok (false, (Jvm.Cond.code ({ cls := "OrderMergeModel", name := "trades", desc := "(II)V" } : Jvm.MethodName) prog_14_method_122_code (4 : Nat) (Option.none : Option Jvm.ClassFile.FieldType))) := wd_m (tb_9 (i := 101) rfl) rfl
set_option maxRecDepth 100000 in
theorem wd_2174 : am_wok (false, (Jvm.Cond.methodLink "OrderMergeLaw" (165 : Nat) ({ cls := "OrderMergeModel", name := "repairs", desc := "()I" } : Jvm.MethodName))) := wd_m (tb_9 (i := 102) rfl) rfl
set_option maxRecDepth 100000 in
theorem wd_2175 : am_wok (false, (Jvm.Cond.instanceMethod ({ cls := "OrderMergeModel", name := "repairs", desc := "()I" } : Jvm.MethodName))) := wd_m (tb_9 (i := 103) rfl) rfl
set_option maxRecDepth 100000 in
theorem wd_2176 : am_wok (false, (Jvm.Cond.selects "OrderMergeModel" ({ cls := "OrderMergeModel", name := "repairs", desc := "()I" } : Jvm.MethodName) ({ cls := "OrderMergeModel", name := "repairs", desc := "()I" } : Jvm.MethodName))) := wd_m (tb_9 (i := 104) rfl) rfl
set_option maxRecDepth 100000 in
theorem wd_2177 : am_wok (false, (Jvm.Cond.code ({ cls := "OrderMergeModel", name := "repairs", desc := "()I" } : Jvm.MethodName) prog_14_method_128_code (1 : Nat) (Option.some Jvm.ClassFile.FieldType.int))) := wd_m (tb_9 (i := 105) rfl) rfl
set_option maxRecDepth 100000 in
theorem wd_2178 : am_wok (false, (Jvm.Cond.methodLink "OrderMergeModel" (475 : Nat) ({ cls := "OrderMergeModel", name := "laysRepairs", desc := "()I" } : Jvm.MethodName))) := wd_m (tb_9 (i := 106) rfl) rfl
set_option maxRecDepth 100000 in
theorem wd_2180 : am_wok (false, (Jvm.Cond.instanceMethod ({ cls := "OrderMergeModel", name := "laysRepairs", desc := "()I" } : Jvm.MethodName))) := wd_m (tb_9 (i := 108) rfl) rfl
set_option maxRecDepth 100000 in
theorem wd_2181 : am_wok (false, (Jvm.Cond.code ({ cls := "OrderMergeModel", name := "laysRepairs", desc := "()I" } : Jvm.MethodName) prog_14_method_127_code (2 : Nat) (Option.some Jvm.ClassFile.FieldType.int))) := wd_m (tb_9 (i := 109) rfl) rfl
set_option maxRecDepth 100000 in
theorem wd_2182 : am_wok (false, (Jvm.Cond.methodLink "OrderMergeModel" (472 : Nat) ({ cls := "OrderMergeModel", name := "repairsBy", desc := "(II)Z" } : Jvm.MethodName))) := wd_m (tb_9 (i := 110) rfl) rfl
set_option maxRecDepth 100000 in
theorem wd_2184 : am_wok (false, (Jvm.Cond.instanceMethod ({ cls := "OrderMergeModel", name := "repairsBy", desc := "(II)Z" } : Jvm.MethodName))) := wd_m (tb_9 (i := 112) rfl) rfl
set_option maxRecDepth 100000 in
theorem wd_2185 : am_wok (false, (Jvm.Cond.code ({ cls := "OrderMergeModel", name := "repairsBy", desc := "(II)Z" } : Jvm.MethodName) prog_14_method_126_code (6 : Nat) (Option.some Jvm.ClassFile.FieldType.boolean))) := wd_m (tb_9 (i := 113) rfl) rfl
set_option maxRecDepth 100000 in
theorem wd_2186 : am_wok (false, (Jvm.Cond.methodLink "OrderMergeModel" (468 : Nat) ({ cls := "OrderMergeModel", name := "isWhole", desc := "()Z" } : Jvm.MethodName))) := wd_m (tb_9 (i := 114) rfl) rfl
set_option maxRecDepth 100000 in
theorem wd_2188 : am_wok (false, (Jvm.Cond.instanceMethod ({ cls := "OrderMergeModel", name := "isWhole", desc := "()Z" } : Jvm.MethodName))) := wd_m (tb_9 (i := 116) rfl) rfl
set_option maxRecDepth 100000 in
theorem wd_2189 : am_wok (false, (Jvm.Cond.code ({ cls := "OrderMergeModel", name := "isWhole", desc := "()Z" } : Jvm.MethodName) prog_14_method_125_code (4 : Nat) (Option.some Jvm.ClassFile.FieldType.boolean))) := wd_m (tb_9 (i := 117) rfl) rfl
set_option maxRecDepth 100000 in
theorem wd_2190 : am_wok (false, (Jvm.Cond.methodLink "OrderMergeModel" (465 : Nat) ({ cls := "OrderMergeModel", name := "isTaken", desc := "(I)Z" } : Jvm.MethodName))) := wd_m (tb_9 (i := 118) rfl) rfl
set_option maxRecDepth 100000 in
theorem wd_2192 : am_wok (false, (Jvm.Cond.instanceMethod ({ cls := "OrderMergeModel", name := "isTaken", desc := "(I)Z" } : Jvm.MethodName))) := wd_m (tb_9 (i := 120) rfl) rfl
set_option maxRecDepth 100000 in
theorem wd_2193 : am_wok (false, (Jvm.Cond.code ({ cls := "OrderMergeModel", name := "isTaken", desc := "(I)Z" } : Jvm.MethodName) prog_14_method_124_code (3 : Nat) (Option.some Jvm.ClassFile.FieldType.boolean))) := wd_m (tb_9 (i := 121) rfl) rfl
set_option maxRecDepth 100000 in
theorem wd_2194 : am_wok (false, (Jvm.Cond.methodLink "OrderMergeLaw" (169 : Nat) ({ cls := "OrderMergeModel", name := "repair", desc := "(I)I" } : Jvm.MethodName))) := wd_m (tb_9 (i := 122) rfl) rfl
set_option maxRecDepth 100000 in
theorem wd_2195 : am_wok (false, (Jvm.Cond.instanceMethod ({ cls := "OrderMergeModel", name := "repair", desc := "(I)I" } : Jvm.MethodName))) := wd_m (tb_9 (i := 123) rfl) rfl
set_option maxRecDepth 100000 in
theorem wd_2196 : am_wok (false, (Jvm.Cond.selects "OrderMergeModel" ({ cls := "OrderMergeModel", name := "repair", desc := "(I)I" } : Jvm.MethodName) ({ cls := "OrderMergeModel", name := "repair", desc := "(I)I" } : Jvm.MethodName))) := wd_m (tb_9 (i := 124) rfl) rfl
set_option maxRecDepth 100000 in
theorem wd_2197 : am_wok (false, (Jvm.Cond.code ({ cls := "OrderMergeModel", name := "repair", desc := "(I)I" } : Jvm.MethodName) prog_14_method_129_code (4 : Nat) (Option.some Jvm.ClassFile.FieldType.int))) := wd_m (tb_9 (i := 125) rfl) rfl
set_option maxRecDepth 100000 in
theorem wd_2198 : am_wok (false, (Jvm.Cond.methodLink "OrderMergeLaw" (173 : Nat) ({ cls := "OrderMergeModel", name := "moods", desc := "(I)I" } : Jvm.MethodName))) := wd_m (tb_9 (i := 126) rfl) rfl
set_option maxRecDepth 100000 in
theorem wd_2199 : am_wok (false, (Jvm.Cond.instanceMethod ({ cls := "OrderMergeModel", name := "moods", desc := "(I)I" } : Jvm.MethodName))) := wd_m (tb_9 (i := 127) rfl) rfl
set_option maxRecDepth 100000 in
theorem wd_2200 : am_wok (false, (Jvm.Cond.selects "OrderMergeModel" ({ cls := "OrderMergeModel", name := "moods", desc := "(I)I" } : Jvm.MethodName) ({ cls := "OrderMergeModel", name := "moods", desc := "(I)I" } : Jvm.MethodName))) := wd_m (tb_9 (i := 128) rfl) rfl
set_option maxRecDepth 100000 in
theorem wd_2201 : am_wok (false, (Jvm.Cond.code ({ cls := "OrderMergeModel", name := "moods", desc := "(I)I" } : Jvm.MethodName) prog_14_method_132_code (3 : Nat) (Option.some Jvm.ClassFile.FieldType.int))) := wd_m (tb_9 (i := 129) rfl) rfl
set_option maxRecDepth 100000 in
theorem wd_2202 : am_wok (false, (Jvm.Cond.methodLink "OrderMergeModel" (487 : Nat) ({ cls := "OrderMergeModel", name := "noTold", desc := "(I)I" } : Jvm.MethodName))) := wd_m (tb_9 (i := 130) rfl) rfl
set_option maxRecDepth 100000 in
theorem wd_2204 : am_wok (false, (Jvm.Cond.instanceMethod ({ cls := "OrderMergeModel", name := "noTold", desc := "(I)I" } : Jvm.MethodName))) := wd_m (tb_9 (i := 132) rfl) rfl
set_option maxRecDepth 100000 in
theorem wd_2205 : am_wok (false, (Jvm.Cond.code ({ cls := "OrderMergeModel", name := "noTold", desc := "(I)I" } : Jvm.MethodName) prog_14_method_130_code (6 : Nat) (Option.some Jvm.ClassFile.FieldType.int))) := wd_m (tb_9 (i := 133) rfl) rfl
set_option maxRecDepth 100000 in
theorem wd_2206 : am_wok (false, (Jvm.Cond.constantLong "OrderMergeModel" (478 : Nat) (8 : Int64))) := wd_m (tb_9 (i := 134) rfl) rfl
set_option maxRecDepth 100000 in
theorem wd_2207 : am_wok (false, (Jvm.Cond.constantLong "OrderMergeModel" (480 : Nat) (10000000 : Int64))) := wd_m (tb_9 (i := 135) rfl) rfl
set_option maxRecDepth 100000 in
theorem wd_2208 : am_wok (false, (Jvm.Cond.constantLong "OrderMergeModel" (482 : Nat) (100000 : Int64))) := wd_m (tb_9 (i := 136) rfl) rfl
set_option maxRecDepth 100000 in
theorem wd_2209 : am_wok (false, (Jvm.Cond.methodLink "OrderMergeModel" (490 : Nat) ({ cls := "OrderMergeModel", name := "moodsOf", desc := "(I)I" } : Jvm.MethodName))) := wd_m (tb_9 (i := 137) rfl) rfl
set_option maxRecDepth 100000 in
theorem wd_2211 : am_wok (false, (Jvm.Cond.instanceMethod ({ cls := "OrderMergeModel", name := "moodsOf", desc := "(I)I" } : Jvm.MethodName))) := wd_m (tb_9 (i := 139) rfl) rfl
set_option maxRecDepth 100000 in
theorem wd_2212 : am_wok (false, (Jvm.Cond.code ({ cls := "OrderMergeModel", name := "moodsOf", desc := "(I)I" } : Jvm.MethodName) prog_14_method_131_code (7 : Nat) (Option.some Jvm.ClassFile.FieldType.int))) := wd_m (tb_9 (i := 140) rfl) rfl
set_option maxRecDepth 100000 in
theorem wd_2213 : am_wok (false, (Jvm.Cond.constant "OrderMergeModel" (484 : Nat) (10000000 : Int32))) := wd_m (tb_9 (i := 141) rfl) rfl
set_option maxRecDepth 100000 in
theorem wd_2214 : am_wok (false, (Jvm.Cond.constant "OrderMergeModel" (485 : Nat) (100000 : Int32))) := wd_m (tb_9 (i := 142) rfl) rfl
set_option maxRecDepth 100000 in
theorem wd_2215 : am_wok (false, (Jvm.Cond.constant "OrderMergeModel" (486 : Nat) (50000 : Int32))) := wd_m (tb_9 (i := 143) rfl) rfl
set_option maxRecDepth 100000 in
theorem wd_2216 : am_wok (false, (Jvm.Cond.methodLink "OrderMergeLaw" (177 : Nat) ({ cls := "OrderMergeModel", name := "attempt", desc := "(I)I" } : Jvm.MethodName))) := wd_m (tb_9 (i := 144) rfl) rfl
set_option maxRecDepth 100000 in
theorem wd_2217 : am_wok (false, (Jvm.Cond.instanceMethod ({ cls := "OrderMergeModel", name := "attempt", desc := "(I)I" } : Jvm.MethodName))) := wd_m (tb_9 (i := 145) rfl) rfl
set_option maxRecDepth 100000 in
theorem wd_2218 : am_wok (false, (Jvm.Cond.selects "OrderMergeModel" ({ cls := "OrderMergeModel", name := "attempt", desc := "(I)I" } : Jvm.MethodName) ({ cls := "OrderMergeModel", name := "attempt", desc := "(I)I" } : Jvm.MethodName))) := wd_m (tb_9 (i := 146) rfl) rfl
set_option maxRecDepth 100000 in
theorem wd_2219 : am_wok (false, (Jvm.Cond.code ({ cls := "OrderMergeModel", name := "attempt", desc := "(I)I" } : Jvm.MethodName) prog_14_method_134_code (9 : Nat) (Option.some Jvm.ClassFile.FieldType.int))) := wd_m (tb_9 (i := 147) rfl) rfl
set_option maxRecDepth 100000 in
theorem wd_2220 : am_wok (false, (Jvm.Cond.constant "OrderMergeModel" (493 : Nat) (268435456 : Int32))) := wd_m (tb_9 (i := 148) rfl) rfl
set_option maxRecDepth 100000 in
theorem wd_2221 : am_wok (false, (Jvm.Cond.methodLink "OrderMergeModel" (494 : Nat) ({ cls := "OrderMergeModel", name := "mostAlike", desc := "(III)I" } : Jvm.MethodName))) := wd_m (tb_9 (i := 149) rfl) rfl
set_option maxRecDepth 100000 in
theorem wd_2223 : am_wok (false, (Jvm.Cond.instanceMethod ({ cls := "OrderMergeModel", name := "mostAlike", desc := "(III)I" } : Jvm.MethodName))) := wd_m (tb_9 (i := 151) rfl) rfl
set_option maxRecDepth 100000 in
theorem wd_2224 : am_wok (false, (Jvm.Cond.code ({ cls := "OrderMergeModel", name := "mostAlike", desc := "(III)I" } : Jvm.MethodName) prog_14_method_133_code (8 : Nat) (Option.some Jvm.ClassFile.FieldType.int))) := wd_m (tb_9 (i := 152) rfl) rfl
set_option maxRecDepth 100000 in
theorem wd_2225 : am_wok (false, (Jvm.Cond.methodLink "OrderMergeLaw" (181 : Nat) ({ cls := "OrderMergeModel", name := "chance", desc := "(II)I" } : Jvm.MethodName))) := wd_m (tb_9 (i := 153) rfl) rfl
set_option maxRecDepth 100000 in
theorem wd_2226 : am_wok (false, (Jvm.Cond.instanceMethod ({ cls := "OrderMergeModel", name := "chance", desc := "(II)I" } : Jvm.MethodName))) := wd_m (tb_9 (i := 154) rfl) rfl
set_option maxRecDepth 100000 in
theorem wd_2227 : am_wok (false, (Jvm.Cond.selects "OrderMergeModel" ({ cls := "OrderMergeModel", name := "chance", desc := "(II)I" } : Jvm.MethodName) ({ cls := "OrderMergeModel", name := "chance", desc := "(II)I" } : Jvm.MethodName))) := wd_m (tb_9 (i := 155) rfl) rfl
set_option maxRecDepth 100000 in
theorem wd_2228 : am_wok (false, (Jvm.Cond.code ({ cls := "OrderMergeModel", name := "chance", desc := "(II)I" } : Jvm.MethodName) prog_14_method_139_code (3 : Nat) (Option.some Jvm.ClassFile.FieldType.int))) := wd_m (tb_9 (i := 156) rfl) rfl
set_option maxRecDepth 100000 in
theorem wd_2229 : am_wok (false, (Jvm.Cond.methodLink "OrderMergeModel" (515 : Nat) ({ cls := "OrderMergeModel", name := "part", desc := "(ZII)I" } : Jvm.MethodName))) := wd_m (tb_9 (i := 157) rfl) rfl
set_option maxRecDepth 100000 in
theorem wd_2231 : am_wok (false, (Jvm.Cond.instanceMethod ({ cls := "OrderMergeModel", name := "part", desc := "(ZII)I" } : Jvm.MethodName))) := wd_m (tb_9 (i := 159) rfl) rfl
set_option maxRecDepth 100000 in
theorem wd_2232 : am_wok (false, (Jvm.Cond.code ({ cls := "OrderMergeModel", name := "part", desc := "(ZII)I" } : Jvm.MethodName) prog_14_method_138_code (6 : Nat) (Option.some Jvm.ClassFile.FieldType.int))) := wd_m (tb_9 (i := 160) rfl) rfl
set_option maxRecDepth 100000 in
theorem wd_2233 : am_wok (false, (Jvm.Cond.methodLink "OrderMergeModel" (504 : Nat) ({ cls := "OrderMergeModel", name := "goesLots", desc := "(I)V" } : Jvm.MethodName))) := wd_m (tb_9 (i := 161) rfl) rfl
set_option maxRecDepth 100000 in
theorem wd_2235 : am_wok (false, (Jvm.Cond.instanceMethod ({ cls := "OrderMergeModel", name := "goesLots", desc := "(I)V" } : Jvm.MethodName))) := wd_m (tb_9 (i := 163) rfl) rfl
set_option maxRecDepth 100000 in
theorem wd_2236 : am_wok (false, (Jvm.Cond.code ({ cls := "OrderMergeModel", name := "goesLots", desc := "(I)V" } : Jvm.MethodName) prog_14_method_135_code (4 : Nat) (Option.none : Option Jvm.ClassFile.FieldType))) := wd_m (tb_9 (i := 164) rfl) rfl
set_option maxRecDepth 100000 in
theorem wd_2237 : am_wok (false, (Jvm.Cond.methodLink "OrderMergeModel" (511 : Nat) ({ cls := "OrderMergeModel", name := "wholeOf", desc := "(I)J" } : Jvm.MethodName))) := wd_m (tb_9 (i := 165) rfl) rfl
set_option maxRecDepth 100000 in
theorem wd_2238 : am_wok (false, (Jvm.Cond.static ({ cls := "OrderMergeModel", name := "wholeOf", desc := "(I)J" } : Jvm.MethodName))) := wd_m (tb_9 (i := 166) rfl) rfl
set_option maxRecDepth 100000 in
theorem wd_2239 : am_wok (false, (Jvm.Cond.code ({ cls := "OrderMergeModel", name := "wholeOf", desc := "(I)J" } : Jvm.MethodName) prog_14_method_136_code (4 : Nat) (Option.some Jvm.ClassFile.FieldType.long))) := wd_m (tb_9 (i := 167) rfl) rfl
set_option maxRecDepth 100000 in
theorem wd_2240 : am_wok (false, (Jvm.Cond.methodLink "OrderMergeModel" (507 : Nat) ({ cls := "OrderMergeModel", name := "divisor", desc := "(JJ)J" } : Jvm.MethodName))) := wd_m (tb_9 (i := 168) rfl) rfl
set_option maxRecDepth 100000 in
theorem wd_2241 : am_wok (false, (Jvm.Cond.static ({ cls := "OrderMergeModel", name := "divisor", desc := "(JJ)J" } : Jvm.MethodName))) := wd_m (tb_9 (i := 169) rfl) rfl
set_option maxRecDepth 100000 in
theorem wd_2242 : am_wok (false, (Jvm.Cond.code ({ cls := "OrderMergeModel", name := "divisor", desc := "(JJ)J" } : Jvm.MethodName) prog_14_method_137_code (4 : Nat) (Option.some Jvm.ClassFile.FieldType.long))) := wd_m (tb_9 (i := 170) rfl) rfl
set_option maxRecDepth 100000 in
theorem wd_2243 : am_wok (false, (Jvm.Cond.methodLink "OrderMergeLaw" (185 : Nat) ({ cls := "OrderMergeModel", name := "mean", desc := "(II)I" } : Jvm.MethodName))) := wd_m (tb_9 (i := 171) rfl) rfl
set_option maxRecDepth 100000 in
theorem wd_2244 : am_wok (false, (Jvm.Cond.instanceMethod ({ cls := "OrderMergeModel", name := "mean", desc := "(II)I" } : Jvm.MethodName))) := wd_m (tb_9 (i := 172) rfl) rfl
set_option maxRecDepth 100000 in
theorem wd_2245 : am_wok (false, (Jvm.Cond.selects "OrderMergeModel" ({ cls := "OrderMergeModel", name := "mean", desc := "(II)I" } : Jvm.MethodName) ({ cls := "OrderMergeModel", name := "mean", desc := "(II)I" } : Jvm.MethodName))) := wd_m (tb_9 (i := 173) rfl) rfl
set_option maxRecDepth 100000 in
theorem wd_2246 : am_wok (false, (Jvm.Cond.code ({ cls := "OrderMergeModel", name := "mean", desc := "(II)I" } : Jvm.MethodName) prog_14_method_140_code (3 : Nat) (Option.some Jvm.ClassFile.FieldType.int))) := wd_m (tb_9 (i := 174) rfl) rfl
set_option maxRecDepth 100000 in
theorem wd_2247 : am_wok (false, (Jvm.Cond.methodLink "OrderMergeLaw" (189 : Nat) ({ cls := "OrderMergeModel", name := "numbers", desc := "(III)I" } : Jvm.MethodName))) := wd_m (tb_9 (i := 175) rfl) rfl
set_option maxRecDepth 100000 in
theorem wd_2248 : am_wok (false, (Jvm.Cond.instanceMethod ({ cls := "OrderMergeModel", name := "numbers", desc := "(III)I" } : Jvm.MethodName))) := wd_m (tb_9 (i := 176) rfl) rfl
set_option maxRecDepth 100000 in
theorem wd_2249 : am_wok (false, (Jvm.Cond.selects "OrderMergeModel" ({ cls := "OrderMergeModel", name := "numbers", desc := "(III)I" } : Jvm.MethodName) ({ cls := "OrderMergeModel", name := "numbers", desc := "(III)I" } : Jvm.MethodName))) := wd_m (tb_9 (i := 177) rfl) rfl
set_option maxRecDepth 100000 in
theorem wd_2250 : am_wok (false, (Jvm.Cond.code ({ cls := "OrderMergeModel", name := "numbers", desc := "(III)I" } : Jvm.MethodName) prog_14_method_142_code (5 : Nat) (Option.some Jvm.ClassFile.FieldType.int))) := wd_m (tb_9 (i := 178) rfl) rfl
set_option maxRecDepth 100000 in
theorem wd_2251 : am_wok (false, (Jvm.Cond.methodLink "OrderMergeLaw" (196 : Nat) ({ cls := "OrderMergeModel", name := "write", desc := "(IIJ)J" } : Jvm.MethodName))) := wd_m (tb_9 (i := 179) rfl) rfl
set_option maxRecDepth 100000 in
theorem wd_2252 : am_wok (false, (Jvm.Cond.instanceMethod ({ cls := "OrderMergeModel", name := "write", desc := "(IIJ)J" } : Jvm.MethodName))) := wd_m (tb_9 (i := 180) rfl) rfl
set_option maxRecDepth 100000 in
theorem wd_2253 : am_wok (false, (Jvm.Cond.selects "OrderMergeModel" ({ cls := "OrderMergeModel", name := "write", desc := "(IIJ)J" } : Jvm.MethodName) ({ cls := "OrderMergeModel", name := "write", desc := "(IIJ)J" } : Jvm.MethodName))) := wd_m (tb_9 (i := 181) rfl) rfl
set_option maxRecDepth 100000 in
theorem wd_2254 : am_wok (false, (Jvm.Cond.code ({ cls := "OrderMergeModel", name := "write", desc := "(IIJ)J" } : Jvm.MethodName) prog_14_method_143_code (6 : Nat) (Option.some Jvm.ClassFile.FieldType.long))) := wd_m (tb_9 (i := 182) rfl) rfl
set_option maxRecDepth 100000 in
theorem wd_2255 : am_wok (false, (Jvm.Cond.constantLong "OrderMergeModel" (519 : Nat) (-7 : Int64))) := wd_m (tb_9 (i := 183) rfl) rfl
set_option maxRecDepth 100000 in
theorem wd_2256 : am_wok (false, (Jvm.Cond.methodLink "OrderMergeModel" (521 : Nat) ({ cls := "OrderMergeModel", name := "cut", desc := "(JI)J" } : Jvm.MethodName))) := wd_m (tb_9 (i := 184) rfl) rfl
set_option maxRecDepth 100000 in
theorem wd_2257 : am_wok (false, (Jvm.Cond.static ({ cls := "OrderMergeModel", name := "cut", desc := "(JI)J" } : Jvm.MethodName))) := wd_m (tb_9 (i := 185) rfl) rfl
set_option maxRecDepth 100000 in
theorem wd_2258 : am_wok (false, (Jvm.Cond.code ({ cls := "OrderMergeModel", name := "cut", desc := "(JI)J" } : Jvm.MethodName) prog_14_method_141_code (3 : Nat) (Option.some Jvm.ClassFile.FieldType.long))) := wd_m (tb_9 (i := 186) rfl) rfl
set_option maxRecDepth 100000 in
theorem wd_2259 : am_wok (false, (Jvm.Cond.methodLink "OrderMergeLaw" (200 : Nat) ({ cls := "OrderMergeModel", name := "lists", desc := "(II)I" } : Jvm.MethodName))) := wd_m (tb_9 (i := 187) rfl) rfl
set_option maxRecDepth 100000 in
theorem wd_2260 : am_wok (false, (Jvm.Cond.instanceMethod ({ cls := "OrderMergeModel", name := "lists", desc := "(II)I" } : Jvm.MethodName))) := wd_m (tb_9 (i := 188) rfl) rfl
set_option maxRecDepth 100000 in
theorem wd_2261 : am_wok (false, (Jvm.Cond.selects "OrderMergeModel" ({ cls := "OrderMergeModel", name := "lists", desc := "(II)I" } : Jvm.MethodName) ({ cls := "OrderMergeModel", name := "lists", desc := "(II)I" } : Jvm.MethodName))) := wd_m (tb_9 (i := 189) rfl) rfl
set_option maxRecDepth 100000 in
theorem wd_2262 : am_wok (false, (Jvm.Cond.code ({ cls := "OrderMergeModel", name := "lists", desc := "(II)I" } : Jvm.MethodName) prog_14_method_144_code (6 : Nat) (Option.some Jvm.ClassFile.FieldType.int))) := wd_m (tb_9 (i := 190) rfl) rfl
set_option maxRecDepth 100000 in
theorem wd_2263 : am_wok (false, (Jvm.Cond.methodLink "OrderMergeLaw" (204 : Nat) ({ cls := "OrderMergeModel", name := "image", desc := "(I)I" } : Jvm.MethodName))) := wd_m (tb_9 (i := 191) rfl) rfl
set_option maxRecDepth 100000 in
theorem wd_2264 : am_wok (false, (Jvm.Cond.instanceMethod ({ cls := "OrderMergeModel", name := "image", desc := "(I)I" } : Jvm.MethodName))) := wd_m (tb_9 (i := 192) rfl) rfl
set_option maxRecDepth 100000 in
theorem wd_2265 : am_wok (false, (Jvm.Cond.selects "OrderMergeModel" ({ cls := "OrderMergeModel", name := "image", desc := "(I)I" } : Jvm.MethodName) ({ cls := "OrderMergeModel", name := "image", desc := "(I)I" } : Jvm.MethodName))) := wd_m (tb_9 (i := 193) rfl) rfl
set_option maxRecDepth 100000 in
theorem wd_2266 : am_wok (false, (Jvm.Cond.code ({ cls := "OrderMergeModel", name := "image", desc := "(I)I" } : Jvm.MethodName) prog_14_method_145_code (3 : Nat) (Option.some Jvm.ClassFile.FieldType.int))) := wd_m (tb_9 (i := 194) rfl) rfl
set_option maxRecDepth 100000 in
theorem wd_2267 : am_wok (false, (Jvm.Cond.methodLink "OrderMergeLaw" (208 : Nat) ({ cls := "OrderMergeModel", name := "restore", desc := "(I)I" } : Jvm.MethodName))) := wd_m (tb_9 (i := 195) rfl) rfl
set_option maxRecDepth 100000 in
theorem wd_2268 : am_wok (false, (Jvm.Cond.instanceMethod ({ cls := "OrderMergeModel", name := "restore", desc := "(I)I" } : Jvm.MethodName))) := wd_m (tb_9 (i := 196) rfl) rfl
set_option maxRecDepth 100000 in
theorem wd_2269 : am_wok (false, (Jvm.Cond.selects "OrderMergeModel" ({ cls := "OrderMergeModel", name := "restore", desc := "(I)I" } : Jvm.MethodName) ({ cls := "OrderMergeModel", name := "restore", desc := "(I)I" } : Jvm.MethodName))) := wd_m (tb_9 (i := 197) rfl) rfl
set_option maxRecDepth 100000 in
theorem wd_2270 : am_wok (false, (Jvm.Cond.code ({ cls := "OrderMergeModel", name := "restore", desc := "(I)I" } : Jvm.MethodName) prog_14_method_146_code (3 : Nat) (Option.some Jvm.ClassFile.FieldType.int))) := wd_m (tb_9 (i := 198) rfl) rfl
set_option maxRecDepth 100000 in
theorem wd_2271 : am_wok (false, (Jvm.Cond.methodLink "OrderMergeLaw" (212 : Nat) ({ cls := "OrderMergeModel", name := "count", desc := "(I)I" } : Jvm.MethodName))) := wd_m (tb_9 (i := 199) rfl) rfl
set_option maxRecDepth 100000 in
theorem wd_2272 : am_wok (false, (Jvm.Cond.instanceMethod ({ cls := "OrderMergeModel", name := "count", desc := "(I)I" } : Jvm.MethodName))) := wd_m (tb_9 (i := 200) rfl) rfl
set_option maxRecDepth 100000 in
theorem wd_2273 : am_wok (false, (Jvm.Cond.selects "OrderMergeModel" ({ cls := "OrderMergeModel", name := "count", desc := "(I)I" } : Jvm.MethodName) ({ cls := "OrderMergeModel", name := "count", desc := "(I)I" } : Jvm.MethodName))) := wd_m (tb_9 (i := 201) rfl) rfl
set_option maxRecDepth 100000 in
theorem wd_2274 : am_wok (false, (Jvm.Cond.code ({ cls := "OrderMergeModel", name := "count", desc := "(I)I" } : Jvm.MethodName) prog_14_method_148_code (2 : Nat) (Option.some Jvm.ClassFile.FieldType.int))) := wd_m (tb_9 (i := 202) rfl) rfl
set_option maxRecDepth 100000 in
theorem wd_2275 : am_wok (false, (Jvm.Cond.methodLink "OrderMergeModel" (525 : Nat) ({ cls := "OrderMergeModel", name := "definitions", desc := "()I" } : Jvm.MethodName))) := wd_m (tb_9 (i := 203) rfl) rfl
set_option maxRecDepth 100000 in
theorem wd_2277 : am_wok (false, (Jvm.Cond.instanceMethod ({ cls := "OrderMergeModel", name := "definitions", desc := "()I" } : Jvm.MethodName))) := wd_m (tb_9 (i := 205) rfl) rfl
set_option maxRecDepth 100000 in
theorem wd_2278 : am_wok (false, (Jvm.Cond.code ({ cls := "OrderMergeModel", name := "definitions", desc := "()I" } : Jvm.MethodName) prog_14_method_147_code (3 : Nat) (Option.some Jvm.ClassFile.FieldType.int))) := wd_m (tb_9 (i := 206) rfl) rfl
set_option maxRecDepth 100000 in
theorem wd_2279 : am_wok (false, (Jvm.Cond.constantLong "OrderMergeLaw" (190 : Nat) (4294967295 : Int64))) := wd_m (tb_9 (i := 207) rfl) rfl
set_option maxRecDepth 100000 in
theorem wd_2280 : am_wok (false, (Jvm.Cond.fieldLink "java/lang/String" (9 : Nat) "java/lang/String" "value" "[B")) := wd_m (tb_9 (i := 208) rfl) rfl
set_option maxRecDepth 100000 in
theorem wd_2281 : am_wok (false, (Jvm.Cond.fieldLink "java/lang/String" (15 : Nat) "java/lang/String" "coder" "B")) := wd_m (tb_9 (i := 209) rfl) rfl
