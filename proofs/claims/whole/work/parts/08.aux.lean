theorem wd_0 : (Cond.selects "HeatNetwork" ⟨"HeatNetwork", "settle", "()V"⟩ ⟨"HeatNetwork", "settle", "()V"⟩) ∈ TB := tb_mem 0 (by decide +kernel) (by decide +kernel)
theorem wd_1 : (Cond.selects "HeatNetwork$Shape" ⟨"HeatNetwork$Shape", "findDistances", "(LHeatNetwork$Network;)V"⟩ ⟨"HeatNetwork$Shape", "findDistances", "(LHeatNetwork$Network;)V"⟩) ∈ TB := tb_mem 1 (by decide +kernel) (by decide +kernel)
theorem wd_2 : (Cond.selects "HeatNetwork$Shape" ⟨"HeatNetwork$Shape", "findLoop", "(LHeatNetwork$Network;)V"⟩ ⟨"HeatNetwork$Shape", "findLoop", "(LHeatNetwork$Network;)V"⟩) ∈ TB := tb_mem 2 (by decide +kernel) (by decide +kernel)
theorem wd_3 : (Cond.selects "HeatNetwork$Shape" ⟨"HeatNetwork$Shape", "closingPipe", "(LHeatNetwork$Network;)I"⟩ ⟨"HeatNetwork$Shape", "closingPipe", "(LHeatNetwork$Network;)I"⟩) ∈ TB := tb_mem 3 (by decide +kernel) (by decide +kernel)
theorem wd_4 : (Cond.selects "HeatNetwork$Shape" ⟨"HeatNetwork$Shape", "goRound", "(LHeatNetwork$Network;I)V"⟩ ⟨"HeatNetwork$Shape", "goRound", "(LHeatNetwork$Network;I)V"⟩) ∈ TB := tb_mem 4 (by decide +kernel) (by decide +kernel)
theorem wd_5 : (Cond.selects "HeatNetwork$Shape" ⟨"HeatNetwork$Shape", "nextInLoop", "(LHeatNetwork$Network;II)I"⟩ ⟨"HeatNetwork$Shape", "nextInLoop", "(LHeatNetwork$Network;II)I"⟩) ∈ TB := tb_mem 5 (by decide +kernel) (by decide +kernel)
theorem wd_6 : (Cond.selects "HeatNetwork$State" ⟨"HeatNetwork$State", "findStationFlows", "(LHeatNetwork$Network;LHeatNetwork$Shape;)Z"⟩ ⟨"HeatNetwork$State", "findStationFlows", "(LHeatNetwork$Network;LHeatNetwork$Shape;)Z"⟩) ∈ TB := tb_mem 6 (by decide +kernel) (by decide +kernel)
theorem wd_7 : (Cond.selects "HeatNetwork$State" ⟨"HeatNetwork$State", "drawnFlow", "(LHeatNetwork$Network;I)I"⟩ ⟨"HeatNetwork$State", "drawnFlow", "(LHeatNetwork$Network;I)I"⟩) ∈ TB := tb_mem 7 (by decide +kernel) (by decide +kernel)
theorem wd_8 : (Cond.selects "HeatNetwork$State" ⟨"HeatNetwork$State", "findTreeFlows", "(LHeatNetwork$Network;LHeatNetwork$Shape;)V"⟩ ⟨"HeatNetwork$State", "findTreeFlows", "(LHeatNetwork$Network;LHeatNetwork$Shape;)V"⟩) ∈ TB := tb_mem 8 (by decide +kernel) (by decide +kernel)
theorem wd_9 : (Cond.selects "HeatNetwork$State" ⟨"HeatNetwork$State", "carry", "(LHeatNetwork$Network;III)V"⟩ ⟨"HeatNetwork$State", "carry", "(LHeatNetwork$Network;III)V"⟩) ∈ TB := tb_mem 9 (by decide +kernel) (by decide +kernel)
theorem wd_10 : (Cond.selects "HeatNetwork$State" ⟨"HeatNetwork$State", "findLoopFlows", "(LHeatNetwork$Network;LHeatNetwork$Shape;)V"⟩ ⟨"HeatNetwork$State", "findLoopFlows", "(LHeatNetwork$Network;LHeatNetwork$Shape;)V"⟩) ∈ TB := tb_mem 10 (by decide +kernel) (by decide +kernel)
theorem wd_11 : (Cond.selects "HeatNetwork$State" ⟨"HeatNetwork$State", "sendRound", "(LHeatNetwork$Network;LHeatNetwork$Shape;I)J"⟩ ⟨"HeatNetwork$State", "sendRound", "(LHeatNetwork$Network;LHeatNetwork$Shape;I)J"⟩) ∈ TB := tb_mem 11 (by decide +kernel) (by decide +kernel)
theorem wd_12 : (Cond.selects "HeatNetwork$State" ⟨"HeatNetwork$State", "findWaterOrder", "(LHeatNetwork$Shape;)V"⟩ ⟨"HeatNetwork$State", "findWaterOrder", "(LHeatNetwork$Shape;)V"⟩) ∈ TB := tb_mem 12 (by decide +kernel) (by decide +kernel)
theorem wd_13 : (Cond.selects "HeatNetwork$State" ⟨"HeatNetwork$State", "putLoopInOrder", "(LHeatNetwork$Shape;I)I"⟩ ⟨"HeatNetwork$State", "putLoopInOrder", "(LHeatNetwork$Shape;I)I"⟩) ∈ TB := tb_mem 13 (by decide +kernel) (by decide +kernel)
theorem wd_14 : (Cond.selects "HeatNetwork$State" ⟨"HeatNetwork$State", "findTemperatures", "(LHeatNetwork$Network;LHeatNetwork$Shape;)V"⟩ ⟨"HeatNetwork$State", "findTemperatures", "(LHeatNetwork$Network;LHeatNetwork$Shape;)V"⟩) ∈ TB := tb_mem 14 (by decide +kernel) (by decide +kernel)
theorem wd_15 : (Cond.selects "HeatNetwork$State" ⟨"HeatNetwork$State", "bring", "(LHeatNetwork$Network;II)J"⟩ ⟨"HeatNetwork$State", "bring", "(LHeatNetwork$Network;II)J"⟩) ∈ TB := tb_mem 15 (by decide +kernel) (by decide +kernel)
theorem wd_16 : (Cond.selects "HeatNetwork$State" ⟨"HeatNetwork$State", "flowTo", "(LHeatNetwork$Network;II)I"⟩ ⟨"HeatNetwork$State", "flowTo", "(LHeatNetwork$Network;II)I"⟩) ∈ TB := tb_mem 16 (by decide +kernel) (by decide +kernel)
theorem wd_17 : (Cond.selects "HeatNetwork$State" ⟨"HeatNetwork$State", "findReturns", "(LHeatNetwork$Network;LHeatNetwork$Shape;)V"⟩ ⟨"HeatNetwork$State", "findReturns", "(LHeatNetwork$Network;LHeatNetwork$Shape;)V"⟩) ∈ TB := tb_mem 17 (by decide +kernel) (by decide +kernel)
theorem wd_18 : (Cond.selects "HeatNetwork$State" ⟨"HeatNetwork$State", "sendBack", "(LHeatNetwork$Network;II)V"⟩ ⟨"HeatNetwork$State", "sendBack", "(LHeatNetwork$Network;II)V"⟩) ∈ TB := tb_mem 18 (by decide +kernel) (by decide +kernel)
theorem wd_19 : (Cond.selects "HeatNetwork$State" ⟨"HeatNetwork$State", "findHeads", "(LHeatNetwork$Network;LHeatNetwork$Shape;)V"⟩ ⟨"HeatNetwork$State", "findHeads", "(LHeatNetwork$Network;LHeatNetwork$Shape;)V"⟩) ∈ TB := tb_mem 19 (by decide +kernel) (by decide +kernel)
theorem wd_20 : (Cond.selects "HeatNetwork$State" ⟨"HeatNetwork$State", "findLoopHeads", "(LHeatNetwork$Network;LHeatNetwork$Shape;)V"⟩ ⟨"HeatNetwork$State", "findLoopHeads", "(LHeatNetwork$Network;LHeatNetwork$Shape;)V"⟩) ∈ TB := tb_mem 20 (by decide +kernel) (by decide +kernel)
theorem wd_22 : (Cond.selects "HeatNetwork" ⟨"HeatNetwork", "beginChange", "()V"⟩ ⟨"HeatNetwork", "beginChange", "()V"⟩) ∈ TB := tb_mem 22 (by decide +kernel) (by decide +kernel)
theorem wd_23 : (Cond.selects "HeatNetwork" ⟨"HeatNetwork", "endChange", "()V"⟩ ⟨"HeatNetwork", "endChange", "()V"⟩) ∈ TB := tb_mem 23 (by decide +kernel) (by decide +kernel)
theorem wd_24 : (Cond.selects "HeatNetwork" ⟨"HeatNetwork", "refuseFor", "(I)V"⟩ ⟨"HeatNetwork", "refuseFor", "(I)V"⟩) ∈ TB := tb_mem 24 (by decide +kernel) (by decide +kernel)
theorem wd_25 : (Cond.selects "HeatNetwork" ⟨"HeatNetwork", "needPipe", "(I)V"⟩ ⟨"HeatNetwork", "needPipe", "(I)V"⟩) ∈ TB := tb_mem 25 (by decide +kernel) (by decide +kernel)
theorem wd_26 : (Cond.selects "HeatNetwork" ⟨"HeatNetwork", "needStation", "(I)V"⟩ ⟨"HeatNetwork", "needStation", "(I)V"⟩) ∈ TB := tb_mem 26 (by decide +kernel) (by decide +kernel)
theorem wd_27 : (Cond.selects "HeatNetwork" ⟨"HeatNetwork", "hoursReason", "()I"⟩ ⟨"HeatNetwork", "hoursReason", "()I"⟩) ∈ TB := tb_mem 27 (by decide +kernel) (by decide +kernel)
theorem wd_28 : (Cond.selects "HeatNetwork" ⟨"HeatNetwork", "passHours", "(I)V"⟩ ⟨"HeatNetwork", "passHours", "(I)V"⟩) ∈ TB := tb_mem 28 (by decide +kernel) (by decide +kernel)
theorem wd_29 : (Cond.selects "HeatNetwork$Text" ⟨"HeatNetwork$Text", "readDefinition", "()Z"⟩ ⟨"HeatNetwork$Text", "readDefinition", "()Z"⟩) ∈ TB := tb_mem 29 (by decide +kernel) (by decide +kernel)
theorem wd_30 : (Cond.selects "HeatNetwork$Text" ⟨"HeatNetwork$Text", "nextSign", "()C"⟩ ⟨"HeatNetwork$Text", "nextSign", "()C"⟩) ∈ TB := tb_mem 30 (by decide +kernel) (by decide +kernel)
theorem wd_31 : (Cond.selects "HeatNetwork$Text" ⟨"HeatNetwork$Text", "take", "(C)Z"⟩ ⟨"HeatNetwork$Text", "take", "(C)Z"⟩) ∈ TB := tb_mem 31 (by decide +kernel) (by decide +kernel)
theorem wd_32 : (Cond.selects "HeatNetwork$Text" ⟨"HeatNetwork$Text", "readNumber", "(II)Z"⟩ ⟨"HeatNetwork$Text", "readNumber", "(II)Z"⟩) ∈ TB := tb_mem 32 (by decide +kernel) (by decide +kernel)
theorem wd_33 : (Cond.selects "HeatNetwork$Text" ⟨"HeatNetwork$Text", "readSigned", "(I)Z"⟩ ⟨"HeatNetwork$Text", "readSigned", "(I)Z"⟩) ∈ TB := tb_mem 33 (by decide +kernel) (by decide +kernel)
theorem wd_34 : (Cond.selects "HeatNetwork" ⟨"HeatNetwork", "carryOut", "(I)I"⟩ ⟨"HeatNetwork", "carryOut", "(I)I"⟩) ∈ TB := tb_mem 34 (by decide +kernel) (by decide +kernel)
theorem wd_35 : (Cond.selects "HeatNetwork" ⟨"HeatNetwork", "definitionReason", "(CIIII)I"⟩ ⟨"HeatNetwork", "definitionReason", "(CIIII)I"⟩) ∈ TB := tb_mem 35 (by decide +kernel) (by decide +kernel)
theorem wd_36 : (Cond.selects "HeatNetwork" ⟨"HeatNetwork", "needConnected", "(I)V"⟩ ⟨"HeatNetwork", "needConnected", "(I)V"⟩) ∈ TB := tb_mem 36 (by decide +kernel) (by decide +kernel)
theorem wd_37 : (Cond.selects "HeatNetwork" ⟨"HeatNetwork", "tryReturn", "(II)V"⟩ ⟨"HeatNetwork", "tryReturn", "(II)V"⟩) ∈ TB := tb_mem 37 (by decide +kernel) (by decide +kernel)
theorem wd_38 : (Cond.selects "HeatNetworkModel" ⟨"HeatNetworkModel", "raises", "(I)I"⟩ ⟨"HeatNetworkModel", "raises", "(I)I"⟩) ∈ TB := tb_mem 38 (by decide +kernel) (by decide +kernel)
theorem wd_39 : (Cond.selects "HeatNetworkModel" ⟨"HeatNetworkModel", "changes", "()V"⟩ ⟨"HeatNetworkModel", "changes", "()V"⟩) ∈ TB := tb_mem 39 (by decide +kernel) (by decide +kernel)
theorem wd_40 : (Cond.selects "HeatNetworkModel" ⟨"HeatNetworkModel", "tries", "()V"⟩ ⟨"HeatNetworkModel", "tries", "()V"⟩) ∈ TB := tb_mem 40 (by decide +kernel) (by decide +kernel)
theorem wd_41 : (Cond.selects "HeatNetworkModel" ⟨"HeatNetworkModel", "keeps", "()V"⟩ ⟨"HeatNetworkModel", "keeps", "()V"⟩) ∈ TB := tb_mem 41 (by decide +kernel) (by decide +kernel)
theorem wd_42 : (Cond.selects "HeatNetworkModel" ⟨"HeatNetworkModel", "pipeBy", "(IIII)I"⟩ ⟨"HeatNetworkModel", "pipeBy", "(IIII)I"⟩) ∈ TB := tb_mem 42 (by decide +kernel) (by decide +kernel)
theorem wd_43 : (Cond.selects "HeatNetworkModel" ⟨"HeatNetworkModel", "pipes", "()I"⟩ ⟨"HeatNetworkModel", "pipes", "()I"⟩) ∈ TB := tb_mem 43 (by decide +kernel) (by decide +kernel)
theorem wd_44 : (Cond.selects "HeatNetworkModel" ⟨"HeatNetworkModel", "across", "(II)I"⟩ ⟨"HeatNetworkModel", "across", "(II)I"⟩) ∈ TB := tb_mem 44 (by decide +kernel) (by decide +kernel)
theorem wd_45 : (Cond.selects "HeatNetworkModel" ⟨"HeatNetworkModel", "of", "(II)I"⟩ ⟨"HeatNetworkModel", "of", "(II)I"⟩) ∈ TB := tb_mem 45 (by decide +kernel) (by decide +kernel)
theorem wd_46 : (Cond.selects "HeatNetworkModel" ⟨"HeatNetworkModel", "measure", "(I)V"⟩ ⟨"HeatNetworkModel", "measure", "(I)V"⟩) ∈ TB := tb_mem 46 (by decide +kernel) (by decide +kernel)
theorem wd_47 : (Cond.selects "HeatNetworkModel" ⟨"HeatNetworkModel", "refuses", "(II)I"⟩ ⟨"HeatNetworkModel", "refuses", "(II)I"⟩) ∈ TB := tb_mem 47 (by decide +kernel) (by decide +kernel)
theorem wd_48 : (Cond.selects "HeatNetworkModel" ⟨"HeatNetworkModel", "isPipe", "(I)Z"⟩ ⟨"HeatNetworkModel", "isPipe", "(I)Z"⟩) ∈ TB := tb_mem 48 (by decide +kernel) (by decide +kernel)
theorem wd_49 : (Cond.selects "HeatNetworkModel" ⟨"HeatNetworkModel", "stationBy", "(IIII)I"⟩ ⟨"HeatNetworkModel", "stationBy", "(IIII)I"⟩) ∈ TB := tb_mem 49 (by decide +kernel) (by decide +kernel)
theorem wd_50 : (Cond.selects "HeatNetworkModel" ⟨"HeatNetworkModel", "hasStation", "(I)Z"⟩ ⟨"HeatNetworkModel", "hasStation", "(I)Z"⟩) ∈ TB := tb_mem 50 (by decide +kernel) (by decide +kernel)
theorem wd_51 : (Cond.selects "HeatNetworkModel" ⟨"HeatNetworkModel", "stations", "()I"⟩ ⟨"HeatNetworkModel", "stations", "()I"⟩) ∈ TB := tb_mem 51 (by decide +kernel) (by decide +kernel)
theorem wd_52 : (Cond.selects "HeatNetworkModel" ⟨"HeatNetworkModel", "goneBy", "(I)I"⟩ ⟨"HeatNetworkModel", "goneBy", "(I)I"⟩) ∈ TB := tb_mem 52 (by decide +kernel) (by decide +kernel)
theorem wd_53 : (Cond.selects "HeatNetworkModel" ⟨"HeatNetworkModel", "hoursBy", "(I)I"⟩ ⟨"HeatNetworkModel", "hoursBy", "(I)I"⟩) ∈ TB := tb_mem 53 (by decide +kernel) (by decide +kernel)
theorem wd_54 : (Cond.selects "HeatNetworkModel" ⟨"HeatNetworkModel", "looks", "()V"⟩ ⟨"HeatNetworkModel", "looks", "()V"⟩) ∈ TB := tb_mem 54 (by decide +kernel) (by decide +kernel)
theorem wd_55 : (Cond.selects "HeatNetworkModel" ⟨"HeatNetworkModel", "findsLoop", "()V"⟩ ⟨"HeatNetworkModel", "findsLoop", "()V"⟩) ∈ TB := tb_mem 55 (by decide +kernel) (by decide +kernel)
theorem wd_56 : (Cond.selects "HeatNetworkModel" ⟨"HeatNetworkModel", "drawn", "(II)I"⟩ ⟨"HeatNetworkModel", "drawn", "(II)I"⟩) ∈ TB := tb_mem 56 (by decide +kernel) (by decide +kernel)
theorem wd_57 : (Cond.selects "HeatNetworkModel" ⟨"HeatNetworkModel", "wants", "(I)I"⟩ ⟨"HeatNetworkModel", "wants", "(I)I"⟩) ∈ TB := tb_mem 57 (by decide +kernel) (by decide +kernel)
theorem wd_58 : (Cond.selects "HeatNetworkModel" ⟨"HeatNetworkModel", "flows", "()V"⟩ ⟨"HeatNetworkModel", "flows", "()V"⟩) ∈ TB := tb_mem 58 (by decide +kernel) (by decide +kernel)
theorem wd_59 : (Cond.selects "HeatNetworkModel" ⟨"HeatNetworkModel", "out", "(I)J"⟩ ⟨"HeatNetworkModel", "out", "(I)J"⟩) ∈ TB := tb_mem 59 (by decide +kernel) (by decide +kernel)
theorem wd_60 : (Cond.selects "HeatNetworkModel" ⟨"HeatNetworkModel", "isLoopPipe", "(I)Z"⟩ ⟨"HeatNetworkModel", "isLoopPipe", "(I)Z"⟩) ∈ TB := tb_mem 60 (by decide +kernel) (by decide +kernel)
theorem wd_61 : (Cond.selects "HeatNetworkModel" ⟨"HeatNetworkModel", "carries", "(IIJ)V"⟩ ⟨"HeatNetworkModel", "carries", "(IIJ)V"⟩) ∈ TB := tb_mem 61 (by decide +kernel) (by decide +kernel)
theorem wd_62 : (Cond.selects "HeatNetworkModel" ⟨"HeatNetworkModel", "around", "(J)J"⟩ ⟨"HeatNetworkModel", "around", "(J)J"⟩) ∈ TB := tb_mem 62 (by decide +kernel) (by decide +kernel)
theorem wd_63 : (Cond.selects "HeatNetworkModel" ⟨"HeatNetworkModel", "drop", "(IJ)J"⟩ ⟨"HeatNetworkModel", "drop", "(IJ)J"⟩) ∈ TB := tb_mem 63 (by decide +kernel) (by decide +kernel)
theorem wd_64 : (Cond.selects "HeatNetworkModel" ⟨"HeatNetworkModel", "temperatures", "()V"⟩ ⟨"HeatNetworkModel", "temperatures", "()V"⟩) ∈ TB := tb_mem 64 (by decide +kernel) (by decide +kernel)
theorem wd_65 : (Cond.selects "HeatNetworkModel" ⟨"HeatNetworkModel", "isReady", "(IZ)Z"⟩ ⟨"HeatNetworkModel", "isReady", "(IZ)Z"⟩) ∈ TB := tb_mem 65 (by decide +kernel) (by decide +kernel)
theorem wd_66 : (Cond.selects "HeatNetworkModel" ⟨"HeatNetworkModel", "from", "(I)I"⟩ ⟨"HeatNetworkModel", "from", "(I)I"⟩) ∈ TB := tb_mem 66 (by decide +kernel) (by decide +kernel)
theorem wd_67 : (Cond.selects "HeatNetworkModel" ⟨"HeatNetworkModel", "to", "(I)I"⟩ ⟨"HeatNetworkModel", "to", "(I)I"⟩) ∈ TB := tb_mem 67 (by decide +kernel) (by decide +kernel)
theorem wd_68 : (Cond.selects "HeatNetworkModel" ⟨"HeatNetworkModel", "mixes", "(IZ)V"⟩ ⟨"HeatNetworkModel", "mixes", "(IZ)V"⟩) ∈ TB := tb_mem 68 (by decide +kernel) (by decide +kernel)
theorem wd_69 : (Cond.selects "HeatNetworkModel" ⟨"HeatNetworkModel", "through", "(II)I"⟩ ⟨"HeatNetworkModel", "through", "(II)I"⟩) ∈ TB := tb_mem 69 (by decide +kernel) (by decide +kernel)
theorem wd_70 : (Cond.selects "HeatNetworkModel" ⟨"HeatNetworkModel", "needed", "()J"⟩ ⟨"HeatNetworkModel", "needed", "()J"⟩) ∈ TB := tb_mem 70 (by decide +kernel) (by decide +kernel)
theorem wd_71 : (Cond.selects "HeatNetworkModel" ⟨"HeatNetworkModel", "headOf", "(I)J"⟩ ⟨"HeatNetworkModel", "headOf", "(I)J"⟩) ∈ TB := tb_mem 71 (by decide +kernel) (by decide +kernel)
theorem wd_72 : (Cond.selects "HeatNetworkModel" ⟨"HeatNetworkModel", "made", "()J"⟩ ⟨"HeatNetworkModel", "made", "()J"⟩) ∈ TB := tb_mem 72 (by decide +kernel) (by decide +kernel)
theorem wd_73 : (Cond.selects "HeatNetworkModel" ⟨"HeatNetworkModel", "allHeat", "()J"⟩ ⟨"HeatNetworkModel", "allHeat", "()J"⟩) ∈ TB := tb_mem 73 (by decide +kernel) (by decide +kernel)
theorem wd_74 : (Cond.selects "HeatNetworkModel" ⟨"HeatNetworkModel", "heat", "(I)J"⟩ ⟨"HeatNetworkModel", "heat", "(I)J"⟩) ∈ TB := tb_mem 74 (by decide +kernel) (by decide +kernel)
theorem wd_75 : (Cond.selects "HeatNetworkModel" ⟨"HeatNetworkModel", "counts", "(I)J"⟩ ⟨"HeatNetworkModel", "counts", "(I)J"⟩) ∈ TB := tb_mem 75 (by decide +kernel) (by decide +kernel)
theorem wd_76 : (Cond.selects "HeatNetworkModel" ⟨"HeatNetworkModel", "pays", "(I)J"⟩ ⟨"HeatNetworkModel", "pays", "(I)J"⟩) ∈ TB := tb_mem 76 (by decide +kernel) (by decide +kernel)
theorem wd_77 : (Cond.selects "HeatNetworkModel" ⟨"HeatNetworkModel", "tariff", "(I)I"⟩ ⟨"HeatNetworkModel", "tariff", "(I)I"⟩) ∈ TB := tb_mem 77 (by decide +kernel) (by decide +kernel)
theorem wd_78 : (Cond.selects "HeatNetworkModel" ⟨"HeatNetworkModel", "definition", "(Z)I"⟩ ⟨"HeatNetworkModel", "definition", "(Z)I"⟩) ∈ TB := tb_mem 78 (by decide +kernel) (by decide +kernel)
theorem wd_79 : (Cond.selects "HeatNetworkModel" ⟨"HeatNetworkModel", "here", "()I"⟩ ⟨"HeatNetworkModel", "here", "()I"⟩) ∈ TB := tb_mem 79 (by decide +kernel) (by decide +kernel)
theorem wd_80 : (Cond.selects "HeatNetworkModel" ⟨"HeatNetworkModel", "number", "()I"⟩ ⟨"HeatNetworkModel", "number", "()I"⟩) ∈ TB := tb_mem 80 (by decide +kernel) (by decide +kernel)
theorem wd_81 : (Cond.selects "HeatNetworkModel" ⟨"HeatNetworkModel", "digit", "()I"⟩ ⟨"HeatNetworkModel", "digit", "()I"⟩) ∈ TB := tb_mem 81 (by decide +kernel) (by decide +kernel)
theorem wd_82 : (Cond.selects "HeatNetworkModel" ⟨"HeatNetworkModel", "takes", "(I)Z"⟩ ⟨"HeatNetworkModel", "takes", "(I)Z"⟩) ∈ TB := tb_mem 82 (by decide +kernel) (by decide +kernel)
theorem wd_83 : (Cond.selects "HeatNetworkModel" ⟨"HeatNetworkModel", "settingBy", "(II)I"⟩ ⟨"HeatNetworkModel", "settingBy", "(II)I"⟩) ∈ TB := tb_mem 83 (by decide +kernel) (by decide +kernel)
theorem wd_84 : (Cond.selects "HeatNetworkModel" ⟨"HeatNetworkModel", "comesBack", "()V"⟩ ⟨"HeatNetworkModel", "comesBack", "()V"⟩) ∈ TB := tb_mem 84 (by decide +kernel) (by decide +kernel)
theorem wd_85 : (Cond.selects "HeatNetworkModel" ⟨"HeatNetworkModel", "loses", "(I)J"⟩ ⟨"HeatNetworkModel", "loses", "(I)J"⟩) ∈ TB := tb_mem 85 (by decide +kernel) (by decide +kernel)
theorem wd_86 : (Cond.selects "HeatNetworkModel" ⟨"HeatNetworkModel", "isJoined", "(I)Z"⟩ ⟨"HeatNetworkModel", "isJoined", "(I)Z"⟩) ∈ TB := tb_mem 86 (by decide +kernel) (by decide +kernel)
theorem wd_87 : (Jvm.Cond.initialized "HeatNetworkLaw") ∈ TB := tb_mem 87 (by decide +kernel) (by decide +kernel)
theorem wd_88 : (Jvm.Cond.initialized "HeatNetwork") ∈ TB := tb_mem 88 (by decide +kernel) (by decide +kernel)
theorem wd_89 : (Jvm.Cond.initialized "HeatNetwork$Network") ∈ TB := tb_mem 89 (by decide +kernel) (by decide +kernel)
theorem wd_90 : (Jvm.Cond.initialized "HeatNetwork$Shape") ∈ TB := tb_mem 90 (by decide +kernel) (by decide +kernel)
theorem wd_91 : (Jvm.Cond.initialized "HeatNetwork$State") ∈ TB := tb_mem 91 (by decide +kernel) (by decide +kernel)
theorem wd_92 : (Jvm.Cond.initialized "HeatNetwork$Text") ∈ TB := tb_mem 92 (by decide +kernel) (by decide +kernel)
theorem wd_93 : (Jvm.Cond.initialized "HeatNetworkModel") ∈ TB := tb_mem 93 (by decide +kernel) (by decide +kernel)
theorem wd_94 : (Jvm.Cond.initialized "java/lang/Throwable") ∈ TB := tb_mem 94 (by decide +kernel) (by decide +kernel)
theorem wd_95 : (Jvm.Cond.initialized "java/lang/Exception") ∈ TB := tb_mem 95 (by decide +kernel) (by decide +kernel)
theorem wd_96 : (Jvm.Cond.initialized "java/lang/RuntimeException") ∈ TB := tb_mem 96 (by decide +kernel) (by decide +kernel)
theorem wd_97 : (Jvm.Cond.initialized "java/lang/IndexOutOfBoundsException") ∈ TB := tb_mem 97 (by decide +kernel) (by decide +kernel)
theorem wd_98 : (Jvm.Cond.initialized "java/lang/ArrayIndexOutOfBoundsException") ∈ TB := tb_mem 98 (by decide +kernel) (by decide +kernel)
theorem wd_99 : (Jvm.Cond.initialized "java/lang/String") ∈ TB := tb_mem 99 (by decide +kernel) (by decide +kernel)
theorem wd_100 : (Jvm.Cond.initialized "java/lang/IllegalArgumentException") ∈ TB := tb_mem 100 (by decide +kernel) (by decide +kernel)
theorem wd_101 : (Jvm.Cond.initialized "java/lang/System") ∈ TB := tb_mem 101 (by decide +kernel) (by decide +kernel)
theorem wd_102 : (Jvm.Cond.initialized "java/lang/Math") ∈ TB := tb_mem 102 (by decide +kernel) (by decide +kernel)
theorem wd_103 : (Jvm.Cond.initialized "java/lang/Integer") ∈ TB := tb_mem 103 (by decide +kernel) (by decide +kernel)
theorem wd_104 : (Jvm.Cond.initialized "java/lang/UnsupportedOperationException") ∈ TB := tb_mem 104 (by decide +kernel) (by decide +kernel)
theorem wd_105 : (Jvm.Cond.initialized "java/util/NoSuchElementException") ∈ TB := tb_mem 105 (by decide +kernel) (by decide +kernel)
theorem wd_106 : (Jvm.Cond.initialized "java/util/Arrays") ∈ TB := tb_mem 106 (by decide +kernel) (by decide +kernel)
theorem wd_107 : (Jvm.Cond.initialized "java/lang/IllegalStateException") ∈ TB := tb_mem 107 (by decide +kernel) (by decide +kernel)
theorem wd_108 : (Jvm.Cond.initialized "java/lang/ArithmeticException") ∈ TB := tb_mem 108 (by decide +kernel) (by decide +kernel)
theorem wd_132 : (Jvm.Cond.fieldLink "HeatNetwork$Network" (18 : Nat) "HeatNetwork$Network" "settings" "[I") ∈ TB := tb_mem 132 (by decide +kernel) (by decide +kernel)
theorem wd_133 : (Jvm.Cond.fieldLink "HeatNetwork$State" (57 : Nat) "HeatNetwork$Network" "settings" "[I") ∈ TB := tb_mem 133 (by decide +kernel) (by decide +kernel)
theorem wd_134 : (Jvm.Cond.fieldLink "HeatNetwork" (86 : Nat) "HeatNetwork$Network" "settings" "[I") ∈ TB := tb_mem 134 (by decide +kernel) (by decide +kernel)
theorem wd_135 : (Jvm.Cond.fieldLink "HeatNetwork$Network" (23 : Nat) "HeatNetwork$Network" "pipes" "I") ∈ TB := tb_mem 135 (by decide +kernel) (by decide +kernel)
theorem wd_136 : (Jvm.Cond.fieldLink "HeatNetwork" (112 : Nat) "HeatNetwork$Network" "pipes" "I") ∈ TB := tb_mem 136 (by decide +kernel) (by decide +kernel)
theorem wd_137 : (Jvm.Cond.fieldLink "HeatNetwork$Shape" (57 : Nat) "HeatNetwork$Network" "pipes" "I") ∈ TB := tb_mem 137 (by decide +kernel) (by decide +kernel)
theorem wd_138 : (Jvm.Cond.fieldLink "HeatNetwork$Network" (27 : Nat) "HeatNetwork$Network" "ones" "[I") ∈ TB := tb_mem 138 (by decide +kernel) (by decide +kernel)
theorem wd_139 : (Jvm.Cond.fieldLink "HeatNetwork$Shape" (70 : Nat) "HeatNetwork$Network" "ones" "[I") ∈ TB := tb_mem 139 (by decide +kernel) (by decide +kernel)
theorem wd_140 : (Jvm.Cond.fieldLink "HeatNetwork$State" (171 : Nat) "HeatNetwork$Network" "ones" "[I") ∈ TB := tb_mem 140 (by decide +kernel) (by decide +kernel)
theorem wd_141 : (Jvm.Cond.fieldLink "HeatNetwork" (202 : Nat) "HeatNetwork$Network" "ones" "[I") ∈ TB := tb_mem 141 (by decide +kernel) (by decide +kernel)
theorem wd_142 : (Jvm.Cond.fieldLink "HeatNetwork$Network" (30 : Nat) "HeatNetwork$Network" "others" "[I") ∈ TB := tb_mem 142 (by decide +kernel) (by decide +kernel)
theorem wd_143 : (Jvm.Cond.fieldLink "HeatNetwork$Shape" (73 : Nat) "HeatNetwork$Network" "others" "[I") ∈ TB := tb_mem 143 (by decide +kernel) (by decide +kernel)
theorem wd_144 : (Jvm.Cond.fieldLink "HeatNetwork" (205 : Nat) "HeatNetwork$Network" "others" "[I") ∈ TB := tb_mem 144 (by decide +kernel) (by decide +kernel)
theorem wd_145 : (Jvm.Cond.fieldLink "HeatNetwork$State" (192 : Nat) "HeatNetwork$Network" "others" "[I") ∈ TB := tb_mem 145 (by decide +kernel) (by decide +kernel)
theorem wd_146 : (Jvm.Cond.fieldLink "HeatNetwork$Network" (33 : Nat) "HeatNetwork$Network" "lengths" "[I") ∈ TB := tb_mem 146 (by decide +kernel) (by decide +kernel)
theorem wd_147 : (Jvm.Cond.fieldLink "HeatNetwork" (208 : Nat) "HeatNetwork$Network" "lengths" "[I") ∈ TB := tb_mem 147 (by decide +kernel) (by decide +kernel)
theorem wd_148 : (Jvm.Cond.fieldLink "HeatNetwork$Network" (36 : Nat) "HeatNetwork$Network" "roughnesses" "[I") ∈ TB := tb_mem 148 (by decide +kernel) (by decide +kernel)
theorem wd_149 : (Jvm.Cond.fieldLink "HeatNetwork" (211 : Nat) "HeatNetwork$Network" "roughnesses" "[I") ∈ TB := tb_mem 149 (by decide +kernel) (by decide +kernel)
theorem wd_150 : (Jvm.Cond.fieldLink "HeatNetwork$Network" (39 : Nat) "HeatNetwork$Network" "sizes" "[I") ∈ TB := tb_mem 150 (by decide +kernel) (by decide +kernel)
theorem wd_151 : (Jvm.Cond.fieldLink "HeatNetwork" (218 : Nat) "HeatNetwork$Network" "sizes" "[I") ∈ TB := tb_mem 151 (by decide +kernel) (by decide +kernel)
theorem wd_152 : (Jvm.Cond.fieldLink "HeatNetwork$Network" (42 : Nat) "HeatNetwork$Network" "returns" "[I") ∈ TB := tb_mem 152 (by decide +kernel) (by decide +kernel)
theorem wd_153 : (Jvm.Cond.fieldLink "HeatNetwork$State" (92 : Nat) "HeatNetwork$Network" "returns" "[I") ∈ TB := tb_mem 153 (by decide +kernel) (by decide +kernel)
theorem wd_154 : (Jvm.Cond.fieldLink "HeatNetwork" (145 : Nat) "HeatNetwork$Network" "returns" "[I") ∈ TB := tb_mem 154 (by decide +kernel) (by decide +kernel)
theorem wd_155 : (Jvm.Cond.fieldLink "HeatNetwork$Network" (45 : Nat) "HeatNetwork$Network" "greatestFlows" "[I") ∈ TB := tb_mem 155 (by decide +kernel) (by decide +kernel)
theorem wd_156 : (Jvm.Cond.fieldLink "HeatNetwork$State" (128 : Nat) "HeatNetwork$Network" "greatestFlows" "[I") ∈ TB := tb_mem 156 (by decide +kernel) (by decide +kernel)
theorem wd_157 : (Jvm.Cond.fieldLink "HeatNetwork" (221 : Nat) "HeatNetwork$Network" "greatestFlows" "[I") ∈ TB := tb_mem 157 (by decide +kernel) (by decide +kernel)
theorem wd_158 : (Jvm.Cond.fieldLink "HeatNetwork$Network" (48 : Nat) "HeatNetwork$Network" "faults" "[I") ∈ TB := tb_mem 158 (by decide +kernel) (by decide +kernel)
theorem wd_159 : (Jvm.Cond.fieldLink "HeatNetwork" (148 : Nat) "HeatNetwork$Network" "faults" "[I") ∈ TB := tb_mem 159 (by decide +kernel) (by decide +kernel)
theorem wd_160 : (Jvm.Cond.fieldLink "HeatNetwork$Network" (51 : Nat) "HeatNetwork$Network" "thousandths" "[I") ∈ TB := tb_mem 160 (by decide +kernel) (by decide +kernel)
theorem wd_161 : (Jvm.Cond.fieldLink "HeatNetwork" (151 : Nat) "HeatNetwork$Network" "thousandths" "[I") ∈ TB := tb_mem 161 (by decide +kernel) (by decide +kernel)
theorem wd_162 : (Jvm.Cond.fieldLink "HeatNetwork$Network" (54 : Nat) "HeatNetwork$Network" "meters" "[J") ∈ TB := tb_mem 162 (by decide +kernel) (by decide +kernel)
theorem wd_163 : (Jvm.Cond.fieldLink "HeatNetwork" (233 : Nat) "HeatNetwork$Network" "meters" "[J") ∈ TB := tb_mem 163 (by decide +kernel) (by decide +kernel)
theorem wd_164 : (Jvm.Cond.fieldLink "HeatNetwork$Network" (58 : Nat) "HeatNetwork$Network" "trueHeats" "[J") ∈ TB := tb_mem 164 (by decide +kernel) (by decide +kernel)
theorem wd_165 : (Jvm.Cond.fieldLink "HeatNetwork" (237 : Nat) "HeatNetwork$Network" "trueHeats" "[J") ∈ TB := tb_mem 165 (by decide +kernel) (by decide +kernel)
theorem wd_166 : (Jvm.Cond.fieldLink "HeatNetwork$Network" (61 : Nat) "HeatNetwork$Network" "payments" "[J") ∈ TB := tb_mem 166 (by decide +kernel) (by decide +kernel)
theorem wd_167 : (Jvm.Cond.fieldLink "HeatNetwork" (240 : Nat) "HeatNetwork$Network" "payments" "[J") ∈ TB := tb_mem 167 (by decide +kernel) (by decide +kernel)
theorem wd_168 : (Jvm.Cond.fieldLink "HeatNetwork$Network" (64 : Nat) "HeatNetwork$Network" "hoursGone" "J") ∈ TB := tb_mem 168 (by decide +kernel) (by decide +kernel)
theorem wd_169 : (Jvm.Cond.fieldLink "HeatNetwork" (163 : Nat) "HeatNetwork$Network" "hoursGone" "J") ∈ TB := tb_mem 169 (by decide +kernel) (by decide +kernel)
theorem wd_170 : (Jvm.Cond.fieldLink "HeatNetwork$Network" (68 : Nat) "HeatNetwork$Network" "madeInAll" "J") ∈ TB := tb_mem 170 (by decide +kernel) (by decide +kernel)
theorem wd_171 : (Jvm.Cond.fieldLink "HeatNetwork" (337 : Nat) "HeatNetwork$Network" "madeInAll" "J") ∈ TB := tb_mem 171 (by decide +kernel) (by decide +kernel)
theorem wd_172 : (Jvm.Cond.fieldLink "HeatNetwork$Network" (71 : Nat) "HeatNetwork$Network" "givenInAll" "J") ∈ TB := tb_mem 172 (by decide +kernel) (by decide +kernel)
theorem wd_173 : (Jvm.Cond.fieldLink "HeatNetwork" (340 : Nat) "HeatNetwork$Network" "givenInAll" "J") ∈ TB := tb_mem 173 (by decide +kernel) (by decide +kernel)
theorem wd_174 : (Jvm.Cond.fieldLink "HeatNetwork$Network" (74 : Nat) "HeatNetwork$Network" "paidInAll" "J") ∈ TB := tb_mem 174 (by decide +kernel) (by decide +kernel)
theorem wd_175 : (Jvm.Cond.fieldLink "HeatNetwork" (343 : Nat) "HeatNetwork$Network" "paidInAll" "J") ∈ TB := tb_mem 175 (by decide +kernel) (by decide +kernel)
theorem wd_222 : (Jvm.Cond.fieldLink "HeatNetwork$Shape" (9 : Nat) "HeatNetwork$Shape" "distances" "[I") ∈ TB := tb_mem 222 (by decide +kernel) (by decide +kernel)
theorem wd_223 : (Jvm.Cond.fieldLink "HeatNetwork$State" (117 : Nat) "HeatNetwork$Shape" "distances" "[I") ∈ TB := tb_mem 223 (by decide +kernel) (by decide +kernel)
theorem wd_224 : (Jvm.Cond.fieldLink "HeatNetwork" (291 : Nat) "HeatNetwork$Shape" "distances" "[I") ∈ TB := tb_mem 224 (by decide +kernel) (by decide +kernel)
theorem wd_225 : (Jvm.Cond.fieldLink "HeatNetwork$Shape" (15 : Nat) "HeatNetwork$Shape" "order" "[I") ∈ TB := tb_mem 225 (by decide +kernel) (by decide +kernel)
theorem wd_226 : (Jvm.Cond.fieldLink "HeatNetwork$State" (108 : Nat) "HeatNetwork$Shape" "order" "[I") ∈ TB := tb_mem 226 (by decide +kernel) (by decide +kernel)
theorem wd_227 : (Jvm.Cond.fieldLink "HeatNetwork$Shape" (18 : Nat) "HeatNetwork$Shape" "connected" "I") ∈ TB := tb_mem 227 (by decide +kernel) (by decide +kernel)
theorem wd_228 : (Jvm.Cond.fieldLink "HeatNetwork$State" (103 : Nat) "HeatNetwork$Shape" "connected" "I") ∈ TB := tb_mem 228 (by decide +kernel) (by decide +kernel)
theorem wd_229 : (Jvm.Cond.fieldLink "HeatNetwork" (352 : Nat) "HeatNetwork$Shape" "connected" "I") ∈ TB := tb_mem 229 (by decide +kernel) (by decide +kernel)
theorem wd_230 : (Jvm.Cond.fieldLink "HeatNetwork$Shape" (22 : Nat) "HeatNetwork$Shape" "feeders" "[I") ∈ TB := tb_mem 230 (by decide +kernel) (by decide +kernel)
theorem wd_231 : (Jvm.Cond.fieldLink "HeatNetwork$State" (141 : Nat) "HeatNetwork$Shape" "feeders" "[I") ∈ TB := tb_mem 231 (by decide +kernel) (by decide +kernel)
theorem wd_232 : (Jvm.Cond.fieldLink "HeatNetwork$Shape" (25 : Nat) "HeatNetwork$Shape" "firstPipes" "[I") ∈ TB := tb_mem 232 (by decide +kernel) (by decide +kernel)
theorem wd_233 : (Jvm.Cond.fieldLink "HeatNetwork$State" (147 : Nat) "HeatNetwork$Shape" "firstPipes" "[I") ∈ TB := tb_mem 233 (by decide +kernel) (by decide +kernel)
theorem wd_234 : (Jvm.Cond.fieldLink "HeatNetwork$Shape" (28 : Nat) "HeatNetwork$Shape" "secondPipes" "[I") ∈ TB := tb_mem 234 (by decide +kernel) (by decide +kernel)
theorem wd_235 : (Jvm.Cond.fieldLink "HeatNetwork$State" (144 : Nat) "HeatNetwork$Shape" "secondPipes" "[I") ∈ TB := tb_mem 235 (by decide +kernel) (by decide +kernel)
theorem wd_236 : (Jvm.Cond.fieldLink "HeatNetwork$Shape" (31 : Nat) "HeatNetwork$Shape" "loopNodes" "[I") ∈ TB := tb_mem 236 (by decide +kernel) (by decide +kernel)
theorem wd_237 : (Jvm.Cond.fieldLink "HeatNetwork$State" (157 : Nat) "HeatNetwork$Shape" "loopNodes" "[I") ∈ TB := tb_mem 237 (by decide +kernel) (by decide +kernel)
theorem wd_238 : (Jvm.Cond.fieldLink "HeatNetwork" (288 : Nat) "HeatNetwork$Shape" "loopNodes" "[I") ∈ TB := tb_mem 238 (by decide +kernel) (by decide +kernel)
theorem wd_239 : (Jvm.Cond.fieldLink "HeatNetwork$Shape" (34 : Nat) "HeatNetwork$Shape" "loopPipes" "[I") ∈ TB := tb_mem 239 (by decide +kernel) (by decide +kernel)
theorem wd_240 : (Jvm.Cond.fieldLink "HeatNetwork$State" (164 : Nat) "HeatNetwork$Shape" "loopPipes" "[I") ∈ TB := tb_mem 240 (by decide +kernel) (by decide +kernel)
theorem wd_241 : (Jvm.Cond.fieldLink "HeatNetwork$Shape" (37 : Nat) "HeatNetwork$Shape" "loopLength" "I") ∈ TB := tb_mem 241 (by decide +kernel) (by decide +kernel)
theorem wd_242 : (Jvm.Cond.fieldLink "HeatNetwork$State" (154 : Nat) "HeatNetwork$Shape" "loopLength" "I") ∈ TB := tb_mem 242 (by decide +kernel) (by decide +kernel)
theorem wd_243 : (Jvm.Cond.fieldLink "HeatNetwork" (275 : Nat) "HeatNetwork$Shape" "loopLength" "I") ∈ TB := tb_mem 243 (by decide +kernel) (by decide +kernel)
theorem wd_244 : (Jvm.Cond.fieldLink "HeatNetwork$Shape" (40 : Nat) "HeatNetwork$Shape" "isInLoop" "[Z") ∈ TB := tb_mem 244 (by decide +kernel) (by decide +kernel)
theorem wd_245 : (Jvm.Cond.fieldLink "HeatNetwork" (214 : Nat) "HeatNetwork$Shape" "isInLoop" "[Z") ∈ TB := tb_mem 245 (by decide +kernel) (by decide +kernel)
theorem wd_274 : (Jvm.Cond.fieldLink "HeatNetwork$State" (9 : Nat) "HeatNetwork$State" "stationFlows" "[I") ∈ TB := tb_mem 274 (by decide +kernel) (by decide +kernel)
theorem wd_275 : (Jvm.Cond.fieldLink "HeatNetwork" (227 : Nat) "HeatNetwork$State" "stationFlows" "[I") ∈ TB := tb_mem 275 (by decide +kernel) (by decide +kernel)
theorem wd_276 : (Jvm.Cond.fieldLink "HeatNetwork$State" (15 : Nat) "HeatNetwork$State" "pipeFlows" "[I") ∈ TB := tb_mem 276 (by decide +kernel) (by decide +kernel)
theorem wd_277 : (Jvm.Cond.fieldLink "HeatNetwork" (247 : Nat) "HeatNetwork$State" "pipeFlows" "[I") ∈ TB := tb_mem 277 (by decide +kernel) (by decide +kernel)
theorem wd_278 : (Jvm.Cond.fieldLink "HeatNetwork$State" (18 : Nat) "HeatNetwork$State" "loopFlows" "[I") ∈ TB := tb_mem 278 (by decide +kernel) (by decide +kernel)
theorem wd_279 : (Jvm.Cond.fieldLink "HeatNetwork$State" (21 : Nat) "HeatNetwork$State" "flowsBehind" "[I") ∈ TB := tb_mem 279 (by decide +kernel) (by decide +kernel)
theorem wd_280 : (Jvm.Cond.fieldLink "HeatNetwork$State" (24 : Nat) "HeatNetwork$State" "waterOrder" "[I") ∈ TB := tb_mem 280 (by decide +kernel) (by decide +kernel)
theorem wd_281 : (Jvm.Cond.fieldLink "HeatNetwork$State" (27 : Nat) "HeatNetwork$State" "hotTemperatures" "[I") ∈ TB := tb_mem 281 (by decide +kernel) (by decide +kernel)
theorem wd_282 : (Jvm.Cond.fieldLink "HeatNetwork" (256 : Nat) "HeatNetwork$State" "hotTemperatures" "[I") ∈ TB := tb_mem 282 (by decide +kernel) (by decide +kernel)
theorem wd_283 : (Jvm.Cond.fieldLink "HeatNetwork$State" (30 : Nat) "HeatNetwork$State" "coolTemperatures" "[I") ∈ TB := tb_mem 283 (by decide +kernel) (by decide +kernel)
theorem wd_284 : (Jvm.Cond.fieldLink "HeatNetwork" (253 : Nat) "HeatNetwork$State" "coolTemperatures" "[I") ∈ TB := tb_mem 284 (by decide +kernel) (by decide +kernel)
theorem wd_285 : (Jvm.Cond.fieldLink "HeatNetwork$State" (33 : Nat) "HeatNetwork$State" "flowsBack" "[J") ∈ TB := tb_mem 285 (by decide +kernel) (by decide +kernel)
theorem wd_286 : (Jvm.Cond.fieldLink "HeatNetwork$State" (37 : Nat) "HeatNetwork$State" "heatsBack" "[J") ∈ TB := tb_mem 286 (by decide +kernel) (by decide +kernel)
theorem wd_287 : (Jvm.Cond.fieldLink "HeatNetwork$State" (40 : Nat) "HeatNetwork$State" "remainders" "[J") ∈ TB := tb_mem 287 (by decide +kernel) (by decide +kernel)
theorem wd_288 : (Jvm.Cond.fieldLink "HeatNetwork" (262 : Nat) "HeatNetwork$State" "remainders" "[J") ∈ TB := tb_mem 288 (by decide +kernel) (by decide +kernel)
theorem wd_289 : (Jvm.Cond.fieldLink "HeatNetwork$State" (43 : Nat) "HeatNetwork$State" "pipeLosses" "[J") ∈ TB := tb_mem 289 (by decide +kernel) (by decide +kernel)
theorem wd_290 : (Jvm.Cond.fieldLink "HeatNetwork" (259 : Nat) "HeatNetwork$State" "pipeLosses" "[J") ∈ TB := tb_mem 290 (by decide +kernel) (by decide +kernel)
theorem wd_291 : (Jvm.Cond.fieldLink "HeatNetwork$State" (46 : Nat) "HeatNetwork$State" "heads" "[J") ∈ TB := tb_mem 291 (by decide +kernel) (by decide +kernel)
theorem wd_292 : (Jvm.Cond.fieldLink "HeatNetwork" (268 : Nat) "HeatNetwork$State" "heads" "[J") ∈ TB := tb_mem 292 (by decide +kernel) (by decide +kernel)
theorem wd_293 : (Jvm.Cond.fieldLink "HeatNetwork$State" (49 : Nat) "HeatNetwork$State" "loopImbalance" "J") ∈ TB := tb_mem 293 (by decide +kernel) (by decide +kernel)
theorem wd_294 : (Jvm.Cond.fieldLink "HeatNetwork" (280 : Nat) "HeatNetwork$State" "loopImbalance" "J") ∈ TB := tb_mem 294 (by decide +kernel) (by decide +kernel)
theorem wd_295 : (Jvm.Cond.fieldLink "HeatNetwork$State" (53 : Nat) "HeatNetwork$State" "roundCount" "I") ∈ TB := tb_mem 295 (by decide +kernel) (by decide +kernel)
theorem wd_296 : (Jvm.Cond.fieldLink "HeatNetwork" (283 : Nat) "HeatNetwork$State" "roundCount" "I") ∈ TB := tb_mem 296 (by decide +kernel) (by decide +kernel)
theorem wd_332 : (Jvm.Cond.fieldLink "HeatNetwork$Text" (9 : Nat) "HeatNetwork$Text" "signs" "[C") ∈ TB := tb_mem 332 (by decide +kernel) (by decide +kernel)
theorem wd_333 : (Jvm.Cond.fieldLink "HeatNetwork" (175 : Nat) "HeatNetwork$Text" "signs" "[C") ∈ TB := tb_mem 333 (by decide +kernel) (by decide +kernel)
theorem wd_334 : (Jvm.Cond.fieldLink "HeatNetwork$Text" (13 : Nat) "HeatNetwork$Text" "length" "I") ∈ TB := tb_mem 334 (by decide +kernel) (by decide +kernel)
theorem wd_335 : (Jvm.Cond.fieldLink "HeatNetwork" (167 : Nat) "HeatNetwork$Text" "length" "I") ∈ TB := tb_mem 335 (by decide +kernel) (by decide +kernel)
theorem wd_336 : (Jvm.Cond.fieldLink "HeatNetwork$Text" (17 : Nat) "HeatNetwork$Text" "position" "I") ∈ TB := tb_mem 336 (by decide +kernel) (by decide +kernel)
theorem wd_337 : (Jvm.Cond.fieldLink "HeatNetwork$Text" (20 : Nat) "HeatNetwork$Text" "definitions" "I") ∈ TB := tb_mem 337 (by decide +kernel) (by decide +kernel)
theorem wd_338 : (Jvm.Cond.fieldLink "HeatNetwork" (184 : Nat) "HeatNetwork$Text" "definitions" "I") ∈ TB := tb_mem 338 (by decide +kernel) (by decide +kernel)
theorem wd_339 : (Jvm.Cond.fieldLink "HeatNetwork$Text" (23 : Nat) "HeatNetwork$Text" "kinds" "[C") ∈ TB := tb_mem 339 (by decide +kernel) (by decide +kernel)
theorem wd_340 : (Jvm.Cond.fieldLink "HeatNetwork" (187 : Nat) "HeatNetwork$Text" "kinds" "[C") ∈ TB := tb_mem 340 (by decide +kernel) (by decide +kernel)
theorem wd_341 : (Jvm.Cond.fieldLink "HeatNetwork$Text" (26 : Nat) "HeatNetwork$Text" "values" "[I") ∈ TB := tb_mem 341 (by decide +kernel) (by decide +kernel)
theorem wd_356 : (Jvm.Cond.fieldLink "HeatNetwork" (10 : Nat) "HeatNetwork" "network" "LHeatNetwork$Network;") ∈ TB := tb_mem 356 (by decide +kernel) (by decide +kernel)
theorem wd_357 : (Jvm.Cond.fieldLink "HeatNetwork" (16 : Nat) "HeatNetwork" "snapshot" "LHeatNetwork$Network;") ∈ TB := tb_mem 357 (by decide +kernel) (by decide +kernel)
theorem wd_358 : (Jvm.Cond.fieldLink "HeatNetwork" (19 : Nat) "HeatNetwork" "tried" "LHeatNetwork$Network;") ∈ TB := tb_mem 358 (by decide +kernel) (by decide +kernel)
theorem wd_359 : (Jvm.Cond.fieldLink "HeatNetwork" (22 : Nat) "HeatNetwork" "earlier" "[LHeatNetwork$Network;") ∈ TB := tb_mem 359 (by decide +kernel) (by decide +kernel)
theorem wd_360 : (Jvm.Cond.fieldLink "HeatNetwork" (29 : Nat) "HeatNetwork" "shape" "LHeatNetwork$Shape;") ∈ TB := tb_mem 360 (by decide +kernel) (by decide +kernel)
theorem wd_361 : (Jvm.Cond.fieldLink "HeatNetwork" (36 : Nat) "HeatNetwork" "state" "LHeatNetwork$State;") ∈ TB := tb_mem 361 (by decide +kernel) (by decide +kernel)
theorem wd_362 : (Jvm.Cond.fieldLink "HeatNetwork" (40 : Nat) "HeatNetwork" "triedState" "LHeatNetwork$State;") ∈ TB := tb_mem 362 (by decide +kernel) (by decide +kernel)
theorem wd_363 : (Jvm.Cond.fieldLink "HeatNetwork" (46 : Nat) "HeatNetwork" "text" "LHeatNetwork$Text;") ∈ TB := tb_mem 363 (by decide +kernel) (by decide +kernel)
theorem wd_364 : (Jvm.Cond.fieldLink "HeatNetwork" (50 : Nat) "HeatNetwork" "nextEarlier" "I") ∈ TB := tb_mem 364 (by decide +kernel) (by decide +kernel)
theorem wd_365 : (Jvm.Cond.fieldLink "HeatNetwork" (54 : Nat) "HeatNetwork" "changes" "I") ∈ TB := tb_mem 365 (by decide +kernel) (by decide +kernel)
theorem wd_366 : (Jvm.Cond.fieldLink "HeatNetwork" (57 : Nat) "HeatNetwork" "hasSnapshot" "Z") ∈ TB := tb_mem 366 (by decide +kernel) (by decide +kernel)
theorem wd_367 : (Jvm.Cond.fieldLink "HeatNetwork" (61 : Nat) "HeatNetwork" "isSettled" "Z") ∈ TB := tb_mem 367 (by decide +kernel) (by decide +kernel)
theorem wd_368 : (Jvm.Cond.fieldLink "HeatNetwork" (64 : Nat) "HeatNetwork" "faultAt" "I") ∈ TB := tb_mem 368 (by decide +kernel) (by decide +kernel)
theorem wd_369 : (Jvm.Cond.fieldLink "HeatNetwork" (67 : Nat) "HeatNetwork" "reason" "I") ∈ TB := tb_mem 369 (by decide +kernel) (by decide +kernel)
theorem wd_407 : (Jvm.Cond.methodLink "HeatNetwork" (154 : Nat) ({ cls := "HeatNetwork", name := "settle", desc := "()V" } : Jvm.MethodName)) ∈ TB := tb_mem 407 (by decide +kernel) (by decide +kernel)
theorem wd_409 : (Jvm.Cond.instanceMethod ({ cls := "HeatNetwork", name := "settle", desc := "()V" } : Jvm.MethodName)) ∈ TB := tb_mem 409 (by decide +kernel) (by decide +kernel)
theorem wd_410 : (Jvm.Cond.code ({ cls := "HeatNetwork", name := "settle", desc := "()V" } : Jvm.MethodName) prog_1_method_43_code (1 : Nat) (Option.none : Option Jvm.ClassFile.FieldType)) ∈ TB := tb_mem 410 (by decide +kernel) (by decide +kernel)
theorem wd_411 : (Jvm.Cond.methodLink "HeatNetwork" (362 : Nat) ({ cls := "HeatNetwork$Shape", name := "follow", desc := "(LHeatNetwork$Network;)V" } : Jvm.MethodName)) ∈ TB := tb_mem 411 (by decide +kernel) (by decide +kernel)
theorem wd_412 : (Jvm.Cond.instanceMethod ({ cls := "HeatNetwork$Shape", name := "follow", desc := "(LHeatNetwork$Network;)V" } : Jvm.MethodName)) ∈ TB := tb_mem 412 (by decide +kernel) (by decide +kernel)
theorem wd_413 : (Jvm.Cond.selects "HeatNetwork$Shape" ({ cls := "HeatNetwork$Shape", name := "follow", desc := "(LHeatNetwork$Network;)V" } : Jvm.MethodName) ({ cls := "HeatNetwork$Shape", name := "follow", desc := "(LHeatNetwork$Network;)V" } : Jvm.MethodName)) ∈ TB := tb_mem 413 (by decide +kernel) (by decide +kernel)
theorem wd_414 : (Jvm.Cond.code ({ cls := "HeatNetwork$Shape", name := "follow", desc := "(LHeatNetwork$Network;)V" } : Jvm.MethodName) prog_3_method_2_code (3 : Nat) (Option.none : Option Jvm.ClassFile.FieldType)) ∈ TB := tb_mem 414 (by decide +kernel) (by decide +kernel)
theorem wd_415 : (Jvm.Cond.methodLink "HeatNetwork$Shape" (44 : Nat) ({ cls := "HeatNetwork$Shape", name := "findDistances", desc := "(LHeatNetwork$Network;)V" } : Jvm.MethodName)) ∈ TB := tb_mem 415 (by decide +kernel) (by decide +kernel)
theorem wd_417 : (Jvm.Cond.instanceMethod ({ cls := "HeatNetwork$Shape", name := "findDistances", desc := "(LHeatNetwork$Network;)V" } : Jvm.MethodName)) ∈ TB := tb_mem 417 (by decide +kernel) (by decide +kernel)
theorem wd_418 : (Jvm.Cond.code ({ cls := "HeatNetwork$Shape", name := "findDistances", desc := "(LHeatNetwork$Network;)V" } : Jvm.MethodName) prog_3_method_4_code (6 : Nat) (Option.none : Option Jvm.ClassFile.FieldType)) ∈ TB := tb_mem 418 (by decide +kernel) (by decide +kernel)
theorem wd_419 : (Jvm.Cond.methodLink "HeatNetwork$Shape" (51 : Nat) ({ cls := "java/util/Arrays", name := "fill", desc := "([II)V" } : Jvm.MethodName)) ∈ TB := tb_mem 419 (by decide +kernel) (by decide +kernel)
theorem wd_420 : (Jvm.Cond.static ({ cls := "java/util/Arrays", name := "fill", desc := "([II)V" } : Jvm.MethodName)) ∈ TB := tb_mem 420 (by decide +kernel) (by decide +kernel)
theorem wd_421 : (Jvm.Cond.code ({ cls := "java/util/Arrays", name := "fill", desc := "([II)V" } : Jvm.MethodName) prog_23_method_103_code (4 : Nat) (Option.none : Option Jvm.ClassFile.FieldType)) ∈ TB := tb_mem 421 (by decide +kernel) (by decide +kernel)
theorem wd_422 : (Jvm.Cond.methodLink "HeatNetwork$Shape" (62 : Nat) ({ cls := "HeatNetwork$Network", name := "farEnd", desc := "(II)I" } : Jvm.MethodName)) ∈ TB := tb_mem 422 (by decide +kernel) (by decide +kernel)
theorem wd_423 : (Jvm.Cond.instanceMethod ({ cls := "HeatNetwork$Network", name := "farEnd", desc := "(II)I" } : Jvm.MethodName)) ∈ TB := tb_mem 423 (by decide +kernel) (by decide +kernel)
theorem wd_424 : (Jvm.Cond.selects "HeatNetwork$Network" ({ cls := "HeatNetwork$Network", name := "farEnd", desc := "(II)I" } : Jvm.MethodName) ({ cls := "HeatNetwork$Network", name := "farEnd", desc := "(II)I" } : Jvm.MethodName)) ∈ TB := tb_mem 424 (by decide +kernel) (by decide +kernel)
theorem wd_425 : (Jvm.Cond.code ({ cls := "HeatNetwork$Network", name := "farEnd", desc := "(II)I" } : Jvm.MethodName) prog_2_method_13_code (3 : Nat) (Option.some Jvm.ClassFile.FieldType.int)) ∈ TB := tb_mem 425 (by decide +kernel) (by decide +kernel)
theorem wd_426 : (Jvm.Cond.methodLink "HeatNetwork$Shape" (48 : Nat) ({ cls := "HeatNetwork$Shape", name := "findLoop", desc := "(LHeatNetwork$Network;)V" } : Jvm.MethodName)) ∈ TB := tb_mem 426 (by decide +kernel) (by decide +kernel)
theorem wd_428 : (Jvm.Cond.instanceMethod ({ cls := "HeatNetwork$Shape", name := "findLoop", desc := "(LHeatNetwork$Network;)V" } : Jvm.MethodName)) ∈ TB := tb_mem 428 (by decide +kernel) (by decide +kernel)
theorem wd_429 : (Jvm.Cond.code ({ cls := "HeatNetwork$Shape", name := "findLoop", desc := "(LHeatNetwork$Network;)V" } : Jvm.MethodName) prog_3_method_5_code (6 : Nat) (Option.none : Option Jvm.ClassFile.FieldType)) ∈ TB := tb_mem 429 (by decide +kernel) (by decide +kernel)
theorem wd_430 : (Jvm.Cond.methodLink "HeatNetwork$Shape" (66 : Nat) ({ cls := "HeatNetwork$Shape", name := "closingPipe", desc := "(LHeatNetwork$Network;)I" } : Jvm.MethodName)) ∈ TB := tb_mem 430 (by decide +kernel) (by decide +kernel)
theorem wd_432 : (Jvm.Cond.instanceMethod ({ cls := "HeatNetwork$Shape", name := "closingPipe", desc := "(LHeatNetwork$Network;)I" } : Jvm.MethodName)) ∈ TB := tb_mem 432 (by decide +kernel) (by decide +kernel)
theorem wd_433 : (Jvm.Cond.code ({ cls := "HeatNetwork$Shape", name := "closingPipe", desc := "(LHeatNetwork$Network;)I" } : Jvm.MethodName) prog_3_method_6_code (5 : Nat) (Option.some Jvm.ClassFile.FieldType.int)) ∈ TB := tb_mem 433 (by decide +kernel) (by decide +kernel)
theorem wd_434 : (Jvm.Cond.methodLink "HeatNetwork$Shape" (76 : Nat) ({ cls := "HeatNetwork$Shape", name := "goRound", desc := "(LHeatNetwork$Network;I)V" } : Jvm.MethodName)) ∈ TB := tb_mem 434 (by decide +kernel) (by decide +kernel)
theorem wd_436 : (Jvm.Cond.instanceMethod ({ cls := "HeatNetwork$Shape", name := "goRound", desc := "(LHeatNetwork$Network;I)V" } : Jvm.MethodName)) ∈ TB := tb_mem 436 (by decide +kernel) (by decide +kernel)
theorem wd_437 : (Jvm.Cond.code ({ cls := "HeatNetwork$Shape", name := "goRound", desc := "(LHeatNetwork$Network;I)V" } : Jvm.MethodName) prog_3_method_7_code (6 : Nat) (Option.none : Option Jvm.ClassFile.FieldType)) ∈ TB := tb_mem 437 (by decide +kernel) (by decide +kernel)
theorem wd_438 : (Jvm.Cond.methodLink "HeatNetwork$Shape" (80 : Nat) ({ cls := "HeatNetwork$Shape", name := "nextInLoop", desc := "(LHeatNetwork$Network;II)I" } : Jvm.MethodName)) ∈ TB := tb_mem 438 (by decide +kernel) (by decide +kernel)
theorem wd_440 : (Jvm.Cond.instanceMethod ({ cls := "HeatNetwork$Shape", name := "nextInLoop", desc := "(LHeatNetwork$Network;II)I" } : Jvm.MethodName)) ∈ TB := tb_mem 440 (by decide +kernel) (by decide +kernel)
theorem wd_441 : (Jvm.Cond.code ({ cls := "HeatNetwork$Shape", name := "nextInLoop", desc := "(LHeatNetwork$Network;II)I" } : Jvm.MethodName) prog_3_method_8_code (8 : Nat) (Option.some Jvm.ClassFile.FieldType.int)) ∈ TB := tb_mem 441 (by decide +kernel) (by decide +kernel)
theorem wd_442 : (Jvm.Cond.methodLink "HeatNetwork" (365 : Nat) ({ cls := "HeatNetwork$State", name := "find", desc := "(LHeatNetwork$Network;LHeatNetwork$Shape;)V" } : Jvm.MethodName)) ∈ TB := tb_mem 442 (by decide +kernel) (by decide +kernel)
theorem wd_443 : (Jvm.Cond.instanceMethod ({ cls := "HeatNetwork$State", name := "find", desc := "(LHeatNetwork$Network;LHeatNetwork$Shape;)V" } : Jvm.MethodName)) ∈ TB := tb_mem 443 (by decide +kernel) (by decide +kernel)
theorem wd_444 : (Jvm.Cond.selects "HeatNetwork$State" ({ cls := "HeatNetwork$State", name := "find", desc := "(LHeatNetwork$Network;LHeatNetwork$Shape;)V" } : Jvm.MethodName) ({ cls := "HeatNetwork$State", name := "find", desc := "(LHeatNetwork$Network;LHeatNetwork$Shape;)V" } : Jvm.MethodName)) ∈ TB := tb_mem 444 (by decide +kernel) (by decide +kernel)
theorem wd_445 : (Jvm.Cond.code ({ cls := "HeatNetwork$State", name := "find", desc := "(LHeatNetwork$Network;LHeatNetwork$Shape;)V" } : Jvm.MethodName) prog_4_method_2_code (6 : Nat) (Option.none : Option Jvm.ClassFile.FieldType)) ∈ TB := tb_mem 445 (by decide +kernel) (by decide +kernel)
theorem wd_446 : (Jvm.Cond.methodLink "HeatNetwork$State" (62 : Nat) ({ cls := "java/util/Arrays", name := "fill", desc := "([II)V" } : Jvm.MethodName)) ∈ TB := tb_mem 446 (by decide +kernel) (by decide +kernel)
theorem wd_447 : (Jvm.Cond.methodLink "HeatNetwork$State" (68 : Nat) ({ cls := "HeatNetwork$State", name := "findStationFlows", desc := "(LHeatNetwork$Network;LHeatNetwork$Shape;)Z" } : Jvm.MethodName)) ∈ TB := tb_mem 447 (by decide +kernel) (by decide +kernel)
theorem wd_449 : (Jvm.Cond.instanceMethod ({ cls := "HeatNetwork$State", name := "findStationFlows", desc := "(LHeatNetwork$Network;LHeatNetwork$Shape;)Z" } : Jvm.MethodName)) ∈ TB := tb_mem 449 (by decide +kernel) (by decide +kernel)
theorem wd_450 : (Jvm.Cond.code ({ cls := "HeatNetwork$State", name := "findStationFlows", desc := "(LHeatNetwork$Network;LHeatNetwork$Shape;)Z" } : Jvm.MethodName) prog_4_method_7_code (6 : Nat) (Option.some Jvm.ClassFile.FieldType.boolean)) ∈ TB := tb_mem 450 (by decide +kernel) (by decide +kernel)
theorem wd_451 : (Jvm.Cond.methodLink "HeatNetwork$State" (95 : Nat) ({ cls := "HeatNetwork$Network", name := "hasStation", desc := "(I)Z" } : Jvm.MethodName)) ∈ TB := tb_mem 451 (by decide +kernel) (by decide +kernel)
theorem wd_452 : (Jvm.Cond.instanceMethod ({ cls := "HeatNetwork$Network", name := "hasStation", desc := "(I)Z" } : Jvm.MethodName)) ∈ TB := tb_mem 452 (by decide +kernel) (by decide +kernel)
theorem wd_453 : (Jvm.Cond.selects "HeatNetwork$Network" ({ cls := "HeatNetwork$Network", name := "hasStation", desc := "(I)Z" } : Jvm.MethodName) ({ cls := "HeatNetwork$Network", name := "hasStation", desc := "(I)Z" } : Jvm.MethodName)) ∈ TB := tb_mem 453 (by decide +kernel) (by decide +kernel)
theorem wd_454 : (Jvm.Cond.code ({ cls := "HeatNetwork$Network", name := "hasStation", desc := "(I)Z" } : Jvm.MethodName) prog_2_method_10_code (2 : Nat) (Option.some Jvm.ClassFile.FieldType.boolean)) ∈ TB := tb_mem 454 (by decide +kernel) (by decide +kernel)
theorem wd_456 : (Jvm.Cond.static ({ cls := "HeatNetwork", name := "isNode", desc := "(I)Z" } : Jvm.MethodName)) ∈ TB := tb_mem 456 (by decide +kernel) (by decide +kernel)
theorem wd_457 : (Jvm.Cond.code ({ cls := "HeatNetwork", name := "isNode", desc := "(I)Z" } : Jvm.MethodName) prog_1_method_55_code (1 : Nat) (Option.some Jvm.ClassFile.FieldType.boolean)) ∈ TB := tb_mem 457 (by decide +kernel) (by decide +kernel)
theorem wd_458 : (Jvm.Cond.methodLink "HeatNetwork" (96 : Nat) ({ cls := "HeatNetwork", name := "isWithin", desc := "(III)Z" } : Jvm.MethodName)) ∈ TB := tb_mem 458 (by decide +kernel) (by decide +kernel)
theorem wd_459 : (Jvm.Cond.static ({ cls := "HeatNetwork", name := "isWithin", desc := "(III)Z" } : Jvm.MethodName)) ∈ TB := tb_mem 459 (by decide +kernel) (by decide +kernel)
theorem wd_460 : (Jvm.Cond.code ({ cls := "HeatNetwork", name := "isWithin", desc := "(III)Z" } : Jvm.MethodName) prog_1_method_56_code (3 : Nat) (Option.some Jvm.ClassFile.FieldType.boolean)) ∈ TB := tb_mem 460 (by decide +kernel) (by decide +kernel)
theorem wd_461 : (Jvm.Cond.methodLink "HeatNetwork$State" (120 : Nat) ({ cls := "HeatNetwork$State", name := "drawnFlow", desc := "(LHeatNetwork$Network;I)I" } : Jvm.MethodName)) ∈ TB := tb_mem 461 (by decide +kernel) (by decide +kernel)
theorem wd_463 : (Jvm.Cond.instanceMethod ({ cls := "HeatNetwork$State", name := "drawnFlow", desc := "(LHeatNetwork$Network;I)I" } : Jvm.MethodName)) ∈ TB := tb_mem 463 (by decide +kernel) (by decide +kernel)
theorem wd_464 : (Jvm.Cond.code ({ cls := "HeatNetwork$State", name := "drawnFlow", desc := "(LHeatNetwork$Network;I)I" } : Jvm.MethodName) prog_4_method_8_code (5 : Nat) (Option.some Jvm.ClassFile.FieldType.int)) ∈ TB := tb_mem 464 (by decide +kernel) (by decide +kernel)
theorem wd_465 : (Jvm.Cond.methodLink "HeatNetwork$State" (124 : Nat) ({ cls := "HeatNetwork$Network", name := "wantedHeat", desc := "(I)I" } : Jvm.MethodName)) ∈ TB := tb_mem 465 (by decide +kernel) (by decide +kernel)
theorem wd_466 : (Jvm.Cond.instanceMethod ({ cls := "HeatNetwork$Network", name := "wantedHeat", desc := "(I)I" } : Jvm.MethodName)) ∈ TB := tb_mem 466 (by decide +kernel) (by decide +kernel)
theorem wd_467 : (Jvm.Cond.selects "HeatNetwork$Network" ({ cls := "HeatNetwork$Network", name := "wantedHeat", desc := "(I)I" } : Jvm.MethodName) ({ cls := "HeatNetwork$Network", name := "wantedHeat", desc := "(I)I" } : Jvm.MethodName)) ∈ TB := tb_mem 467 (by decide +kernel) (by decide +kernel)
theorem wd_468 : (Jvm.Cond.code ({ cls := "HeatNetwork$Network", name := "wantedHeat", desc := "(I)I" } : Jvm.MethodName) prog_2_method_16_code (2 : Nat) (Option.some Jvm.ClassFile.FieldType.int)) ∈ TB := tb_mem 468 (by decide +kernel) (by decide +kernel)
theorem wd_469 : (Jvm.Cond.methodLink "HeatNetwork$Network" (114 : Nat) ({ cls := "java/lang/Math", name := "max", desc := "(II)I" } : Jvm.MethodName)) ∈ TB := tb_mem 469 (by decide +kernel) (by decide +kernel)
theorem wd_470 : (Jvm.Cond.static ({ cls := "java/lang/Math", name := "max", desc := "(II)I" } : Jvm.MethodName)) ∈ TB := tb_mem 470 (by decide +kernel) (by decide +kernel)
theorem wd_471 : (Jvm.Cond.code ({ cls := "java/lang/Math", name := "max", desc := "(II)I" } : Jvm.MethodName) prog_17_method_65_code (2 : Nat) (Option.some Jvm.ClassFile.FieldType.int)) ∈ TB := tb_mem 471 (by decide +kernel) (by decide +kernel)
theorem wd_472 : (Jvm.Cond.methodLink "HeatNetwork$State" (131 : Nat) ({ cls := "java/lang/Math", name := "min", desc := "(II)I" } : Jvm.MethodName)) ∈ TB := tb_mem 472 (by decide +kernel) (by decide +kernel)
theorem wd_473 : (Jvm.Cond.static ({ cls := "java/lang/Math", name := "min", desc := "(II)I" } : Jvm.MethodName)) ∈ TB := tb_mem 473 (by decide +kernel) (by decide +kernel)
theorem wd_474 : (Jvm.Cond.code ({ cls := "java/lang/Math", name := "min", desc := "(II)I" } : Jvm.MethodName) prog_17_method_69_code (2 : Nat) (Option.some Jvm.ClassFile.FieldType.int)) ∈ TB := tb_mem 474 (by decide +kernel) (by decide +kernel)
theorem wd_475 : (Jvm.Cond.methodLink "HeatNetwork$State" (72 : Nat) ({ cls := "HeatNetwork$State", name := "findTreeFlows", desc := "(LHeatNetwork$Network;LHeatNetwork$Shape;)V" } : Jvm.MethodName)) ∈ TB := tb_mem 475 (by decide +kernel) (by decide +kernel)
theorem wd_477 : (Jvm.Cond.instanceMethod ({ cls := "HeatNetwork$State", name := "findTreeFlows", desc := "(LHeatNetwork$Network;LHeatNetwork$Shape;)V" } : Jvm.MethodName)) ∈ TB := tb_mem 477 (by decide +kernel) (by decide +kernel)
theorem wd_478 : (Jvm.Cond.code ({ cls := "HeatNetwork$State", name := "findTreeFlows", desc := "(LHeatNetwork$Network;LHeatNetwork$Shape;)V" } : Jvm.MethodName) prog_4_method_9_code (6 : Nat) (Option.none : Option Jvm.ClassFile.FieldType)) ∈ TB := tb_mem 478 (by decide +kernel) (by decide +kernel)
theorem wd_479 : (Jvm.Cond.methodLink "HeatNetwork$State" (135 : Nat) ({ cls := "java/lang/System", name := "arraycopy", desc := "(Ljava/lang/Object;ILjava/lang/Object;II)V" } : Jvm.MethodName)) ∈ TB := tb_mem 479 (by decide +kernel) (by decide +kernel)
theorem wd_480 : (Jvm.Cond.static ({ cls := "java/lang/System", name := "arraycopy", desc := "(Ljava/lang/Object;ILjava/lang/Object;II)V" } : Jvm.MethodName)) ∈ TB := tb_mem 480 (by decide +kernel) (by decide +kernel)
theorem wd_481 : (Jvm.Cond.native ({ cls := "java/lang/System", name := "arraycopy", desc := "(Ljava/lang/Object;ILjava/lang/Object;II)V" } : Jvm.MethodName)) ∈ TB := tb_mem 481 (by decide +kernel) (by decide +kernel)
theorem wd_482 : (Jvm.Cond.methodLink "HeatNetwork$State" (150 : Nat) ({ cls := "HeatNetwork$State", name := "carry", desc := "(LHeatNetwork$Network;III)V" } : Jvm.MethodName)) ∈ TB := tb_mem 482 (by decide +kernel) (by decide +kernel)
theorem wd_484 : (Jvm.Cond.instanceMethod ({ cls := "HeatNetwork$State", name := "carry", desc := "(LHeatNetwork$Network;III)V" } : Jvm.MethodName)) ∈ TB := tb_mem 484 (by decide +kernel) (by decide +kernel)
theorem wd_485 : (Jvm.Cond.code ({ cls := "HeatNetwork$State", name := "carry", desc := "(LHeatNetwork$Network;III)V" } : Jvm.MethodName) prog_4_method_12_code (5 : Nat) (Option.none : Option Jvm.ClassFile.FieldType)) ∈ TB := tb_mem 485 (by decide +kernel) (by decide +kernel)
theorem wd_486 : (Jvm.Cond.methodLink "HeatNetwork$State" (76 : Nat) ({ cls := "HeatNetwork$State", name := "findLoopFlows", desc := "(LHeatNetwork$Network;LHeatNetwork$Shape;)V" } : Jvm.MethodName)) ∈ TB := tb_mem 486 (by decide +kernel) (by decide +kernel)
theorem wd_488 : (Jvm.Cond.instanceMethod ({ cls := "HeatNetwork$State", name := "findLoopFlows", desc := "(LHeatNetwork$Network;LHeatNetwork$Shape;)V" } : Jvm.MethodName)) ∈ TB := tb_mem 488 (by decide +kernel) (by decide +kernel)
theorem wd_489 : (Jvm.Cond.code ({ cls := "HeatNetwork$State", name := "findLoopFlows", desc := "(LHeatNetwork$Network;LHeatNetwork$Shape;)V" } : Jvm.MethodName) prog_4_method_10_code (7 : Nat) (Option.none : Option Jvm.ClassFile.FieldType)) ∈ TB := tb_mem 489 (by decide +kernel) (by decide +kernel)
theorem wd_490 : (Jvm.Cond.methodLink "HeatNetwork$State" (160 : Nat) ({ cls := "HeatNetwork$State", name := "sendRound", desc := "(LHeatNetwork$Network;LHeatNetwork$Shape;I)J" } : Jvm.MethodName)) ∈ TB := tb_mem 490 (by decide +kernel) (by decide +kernel)
theorem wd_492 : (Jvm.Cond.instanceMethod ({ cls := "HeatNetwork$State", name := "sendRound", desc := "(LHeatNetwork$Network;LHeatNetwork$Shape;I)J" } : Jvm.MethodName)) ∈ TB := tb_mem 492 (by decide +kernel) (by decide +kernel)
theorem wd_493 : (Jvm.Cond.code ({ cls := "HeatNetwork$State", name := "sendRound", desc := "(LHeatNetwork$Network;LHeatNetwork$Shape;I)J" } : Jvm.MethodName) prog_4_method_11_code (8 : Nat) (Option.some Jvm.ClassFile.FieldType.long)) ∈ TB := tb_mem 493 (by decide +kernel) (by decide +kernel)
theorem wd_494 : (Jvm.Cond.methodLink "HeatNetwork$State" (167 : Nat) ({ cls := "HeatNetwork$Network", name := "dropOf", desc := "(II)J" } : Jvm.MethodName)) ∈ TB := tb_mem 494 (by decide +kernel) (by decide +kernel)
theorem wd_495 : (Jvm.Cond.instanceMethod ({ cls := "HeatNetwork$Network", name := "dropOf", desc := "(II)J" } : Jvm.MethodName)) ∈ TB := tb_mem 495 (by decide +kernel) (by decide +kernel)
theorem wd_496 : (Jvm.Cond.selects "HeatNetwork$Network" ({ cls := "HeatNetwork$Network", name := "dropOf", desc := "(II)J" } : Jvm.MethodName) ({ cls := "HeatNetwork$Network", name := "dropOf", desc := "(II)J" } : Jvm.MethodName)) ∈ TB := tb_mem 496 (by decide +kernel) (by decide +kernel)
theorem wd_497 : (Jvm.Cond.code ({ cls := "HeatNetwork$Network", name := "dropOf", desc := "(II)J" } : Jvm.MethodName) prog_2_method_20_code (5 : Nat) (Option.some Jvm.ClassFile.FieldType.long)) ∈ TB := tb_mem 497 (by decide +kernel) (by decide +kernel)
theorem wd_498 : (Jvm.Cond.methodLink "HeatNetwork$Network" (130 : Nat) ({ cls := "java/lang/Math", name := "abs", desc := "(I)I" } : Jvm.MethodName)) ∈ TB := tb_mem 498 (by decide +kernel) (by decide +kernel)
theorem wd_499 : (Jvm.Cond.static ({ cls := "java/lang/Math", name := "abs", desc := "(I)I" } : Jvm.MethodName)) ∈ TB := tb_mem 499 (by decide +kernel) (by decide +kernel)
theorem wd_500 : (Jvm.Cond.code ({ cls := "java/lang/Math", name := "abs", desc := "(I)I" } : Jvm.MethodName) prog_17_method_59_code (1 : Nat) (Option.some Jvm.ClassFile.FieldType.int)) ∈ TB := tb_mem 500 (by decide +kernel) (by decide +kernel)
theorem wd_501 : (Jvm.Cond.methodLink "HeatNetwork$State" (79 : Nat) ({ cls := "HeatNetwork$State", name := "findWaterOrder", desc := "(LHeatNetwork$Shape;)V" } : Jvm.MethodName)) ∈ TB := tb_mem 501 (by decide +kernel) (by decide +kernel)
theorem wd_503 : (Jvm.Cond.instanceMethod ({ cls := "HeatNetwork$State", name := "findWaterOrder", desc := "(LHeatNetwork$Shape;)V" } : Jvm.MethodName)) ∈ TB := tb_mem 503 (by decide +kernel) (by decide +kernel)
theorem wd_504 : (Jvm.Cond.code ({ cls := "HeatNetwork$State", name := "findWaterOrder", desc := "(LHeatNetwork$Shape;)V" } : Jvm.MethodName) prog_4_method_13_code (5 : Nat) (Option.none : Option Jvm.ClassFile.FieldType)) ∈ TB := tb_mem 504 (by decide +kernel) (by decide +kernel)
theorem wd_505 : (Jvm.Cond.methodLink "HeatNetwork$State" (174 : Nat) ({ cls := "HeatNetwork$Shape", name := "isLoopBeginning", desc := "(I)Z" } : Jvm.MethodName)) ∈ TB := tb_mem 505 (by decide +kernel) (by decide +kernel)
theorem wd_506 : (Jvm.Cond.instanceMethod ({ cls := "HeatNetwork$Shape", name := "isLoopBeginning", desc := "(I)Z" } : Jvm.MethodName)) ∈ TB := tb_mem 506 (by decide +kernel) (by decide +kernel)
theorem wd_507 : (Jvm.Cond.selects "HeatNetwork$Shape" ({ cls := "HeatNetwork$Shape", name := "isLoopBeginning", desc := "(I)Z" } : Jvm.MethodName) ({ cls := "HeatNetwork$Shape", name := "isLoopBeginning", desc := "(I)Z" } : Jvm.MethodName)) ∈ TB := tb_mem 507 (by decide +kernel) (by decide +kernel)
theorem wd_508 : (Jvm.Cond.code ({ cls := "HeatNetwork$Shape", name := "isLoopBeginning", desc := "(I)Z" } : Jvm.MethodName) prog_3_method_3_code (2 : Nat) (Option.some Jvm.ClassFile.FieldType.boolean)) ∈ TB := tb_mem 508 (by decide +kernel) (by decide +kernel)
theorem wd_509 : (Jvm.Cond.methodLink "HeatNetwork$State" (177 : Nat) ({ cls := "HeatNetwork$State", name := "putLoopInOrder", desc := "(LHeatNetwork$Shape;I)I" } : Jvm.MethodName)) ∈ TB := tb_mem 509 (by decide +kernel) (by decide +kernel)
theorem wd_511 : (Jvm.Cond.instanceMethod ({ cls := "HeatNetwork$State", name := "putLoopInOrder", desc := "(LHeatNetwork$Shape;I)I" } : Jvm.MethodName)) ∈ TB := tb_mem 511 (by decide +kernel) (by decide +kernel)
theorem wd_512 : (Jvm.Cond.code ({ cls := "HeatNetwork$State", name := "putLoopInOrder", desc := "(LHeatNetwork$Shape;I)I" } : Jvm.MethodName) prog_4_method_14_code (5 : Nat) (Option.some Jvm.ClassFile.FieldType.int)) ∈ TB := tb_mem 512 (by decide +kernel) (by decide +kernel)
theorem wd_513 : (Jvm.Cond.methodLink "HeatNetwork$State" (83 : Nat) ({ cls := "HeatNetwork$State", name := "findTemperatures", desc := "(LHeatNetwork$Network;LHeatNetwork$Shape;)V" } : Jvm.MethodName)) ∈ TB := tb_mem 513 (by decide +kernel) (by decide +kernel)
theorem wd_515 : (Jvm.Cond.instanceMethod ({ cls := "HeatNetwork$State", name := "findTemperatures", desc := "(LHeatNetwork$Network;LHeatNetwork$Shape;)V" } : Jvm.MethodName)) ∈ TB := tb_mem 515 (by decide +kernel) (by decide +kernel)
theorem wd_516 : (Jvm.Cond.code ({ cls := "HeatNetwork$State", name := "findTemperatures", desc := "(LHeatNetwork$Network;LHeatNetwork$Shape;)V" } : Jvm.MethodName) prog_4_method_15_code (11 : Nat) (Option.none : Option Jvm.ClassFile.FieldType)) ∈ TB := tb_mem 516 (by decide +kernel) (by decide +kernel)
theorem wd_517 : (Jvm.Cond.methodLink "HeatNetwork$State" (181 : Nat) ({ cls := "java/util/Arrays", name := "fill", desc := "([JJ)V" } : Jvm.MethodName)) ∈ TB := tb_mem 517 (by decide +kernel) (by decide +kernel)
theorem wd_518 : (Jvm.Cond.static ({ cls := "java/util/Arrays", name := "fill", desc := "([JJ)V" } : Jvm.MethodName)) ∈ TB := tb_mem 518 (by decide +kernel) (by decide +kernel)
theorem wd_519 : (Jvm.Cond.code ({ cls := "java/util/Arrays", name := "fill", desc := "([JJ)V" } : Jvm.MethodName) prog_23_method_101_code (5 : Nat) (Option.none : Option Jvm.ClassFile.FieldType)) ∈ TB := tb_mem 519 (by decide +kernel) (by decide +kernel)
theorem wd_520 : (Jvm.Cond.methodLink "HeatNetwork$State" (184 : Nat) ({ cls := "HeatNetwork$State", name := "bring", desc := "(LHeatNetwork$Network;II)J" } : Jvm.MethodName)) ∈ TB := tb_mem 520 (by decide +kernel) (by decide +kernel)
theorem wd_522 : (Jvm.Cond.instanceMethod ({ cls := "HeatNetwork$State", name := "bring", desc := "(LHeatNetwork$Network;II)J" } : Jvm.MethodName)) ∈ TB := tb_mem 522 (by decide +kernel) (by decide +kernel)
theorem wd_523 : (Jvm.Cond.code ({ cls := "HeatNetwork$State", name := "bring", desc := "(LHeatNetwork$Network;II)J" } : Jvm.MethodName) prog_4_method_17_code (7 : Nat) (Option.some Jvm.ClassFile.FieldType.long)) ∈ TB := tb_mem 523 (by decide +kernel) (by decide +kernel)
theorem wd_524 : (Jvm.Cond.methodLink "HeatNetwork$State" (188 : Nat) ({ cls := "HeatNetwork$State", name := "flowTo", desc := "(LHeatNetwork$Network;II)I" } : Jvm.MethodName)) ∈ TB := tb_mem 524 (by decide +kernel) (by decide +kernel)
theorem wd_526 : (Jvm.Cond.instanceMethod ({ cls := "HeatNetwork$State", name := "flowTo", desc := "(LHeatNetwork$Network;II)I" } : Jvm.MethodName)) ∈ TB := tb_mem 526 (by decide +kernel) (by decide +kernel)
theorem wd_527 : (Jvm.Cond.code ({ cls := "HeatNetwork$State", name := "flowTo", desc := "(LHeatNetwork$Network;II)I" } : Jvm.MethodName) prog_4_method_16_code (5 : Nat) (Option.some Jvm.ClassFile.FieldType.int)) ∈ TB := tb_mem 527 (by decide +kernel) (by decide +kernel)
theorem wd_528 : (Jvm.Cond.methodLink "HeatNetwork$State" (195 : Nat) ({ cls := "java/lang/Math", name := "max", desc := "(II)I" } : Jvm.MethodName)) ∈ TB := tb_mem 528 (by decide +kernel) (by decide +kernel)
theorem wd_529 : (Jvm.Cond.methodLink "HeatNetwork$State" (197 : Nat) ({ cls := "HeatNetwork$Network", name := "farEnd", desc := "(II)I" } : Jvm.MethodName)) ∈ TB := tb_mem 529 (by decide +kernel) (by decide +kernel)
theorem wd_530 : (Jvm.Cond.methodLink "HeatNetwork$State" (200 : Nat) ({ cls := "HeatNetwork$Network", name := "cooled", desc := "(III)I" } : Jvm.MethodName)) ∈ TB := tb_mem 530 (by decide +kernel) (by decide +kernel)
theorem wd_531 : (Jvm.Cond.instanceMethod ({ cls := "HeatNetwork$Network", name := "cooled", desc := "(III)I" } : Jvm.MethodName)) ∈ TB := tb_mem 531 (by decide +kernel) (by decide +kernel)
theorem wd_532 : (Jvm.Cond.selects "HeatNetwork$Network" ({ cls := "HeatNetwork$Network", name := "cooled", desc := "(III)I" } : Jvm.MethodName) ({ cls := "HeatNetwork$Network", name := "cooled", desc := "(III)I" } : Jvm.MethodName)) ∈ TB := tb_mem 532 (by decide +kernel) (by decide +kernel)
theorem wd_533 : (Jvm.Cond.code ({ cls := "HeatNetwork$Network", name := "cooled", desc := "(III)I" } : Jvm.MethodName) prog_2_method_21_code (9 : Nat) (Option.some Jvm.ClassFile.FieldType.int)) ∈ TB := tb_mem 533 (by decide +kernel) (by decide +kernel)
theorem wd_534 : (Jvm.Cond.constantLong "HeatNetwork$Network" (133 : Nat) (100 : Int64)) ∈ TB := tb_mem 534 (by decide +kernel) (by decide +kernel)
theorem wd_535 : (Jvm.Cond.methodLink "HeatNetwork$State" (86 : Nat) ({ cls := "HeatNetwork$State", name := "findReturns", desc := "(LHeatNetwork$Network;LHeatNetwork$Shape;)V" } : Jvm.MethodName)) ∈ TB := tb_mem 535 (by decide +kernel) (by decide +kernel)
theorem wd_537 : (Jvm.Cond.instanceMethod ({ cls := "HeatNetwork$State", name := "findReturns", desc := "(LHeatNetwork$Network;LHeatNetwork$Shape;)V" } : Jvm.MethodName)) ∈ TB := tb_mem 537 (by decide +kernel) (by decide +kernel)
theorem wd_538 : (Jvm.Cond.code ({ cls := "HeatNetwork$State", name := "findReturns", desc := "(LHeatNetwork$Network;LHeatNetwork$Shape;)V" } : Jvm.MethodName) prog_4_method_18_code (5 : Nat) (Option.none : Option Jvm.ClassFile.FieldType)) ∈ TB := tb_mem 538 (by decide +kernel) (by decide +kernel)
theorem wd_539 : (Jvm.Cond.methodLink "HeatNetwork$State" (204 : Nat) ({ cls := "HeatNetwork$State", name := "sendBack", desc := "(LHeatNetwork$Network;II)V" } : Jvm.MethodName)) ∈ TB := tb_mem 539 (by decide +kernel) (by decide +kernel)
theorem wd_541 : (Jvm.Cond.instanceMethod ({ cls := "HeatNetwork$State", name := "sendBack", desc := "(LHeatNetwork$Network;II)V" } : Jvm.MethodName)) ∈ TB := tb_mem 541 (by decide +kernel) (by decide +kernel)
theorem wd_542 : (Jvm.Cond.code ({ cls := "HeatNetwork$State", name := "sendBack", desc := "(LHeatNetwork$Network;II)V" } : Jvm.MethodName) prog_4_method_19_code (8 : Nat) (Option.none : Option Jvm.ClassFile.FieldType)) ∈ TB := tb_mem 542 (by decide +kernel) (by decide +kernel)
theorem wd_543 : (Jvm.Cond.methodLink "HeatNetwork$State" (89 : Nat) ({ cls := "HeatNetwork$State", name := "findHeads", desc := "(LHeatNetwork$Network;LHeatNetwork$Shape;)V" } : Jvm.MethodName)) ∈ TB := tb_mem 543 (by decide +kernel) (by decide +kernel)
theorem wd_545 : (Jvm.Cond.instanceMethod ({ cls := "HeatNetwork$State", name := "findHeads", desc := "(LHeatNetwork$Network;LHeatNetwork$Shape;)V" } : Jvm.MethodName)) ∈ TB := tb_mem 545 (by decide +kernel) (by decide +kernel)
theorem wd_546 : (Jvm.Cond.code ({ cls := "HeatNetwork$State", name := "findHeads", desc := "(LHeatNetwork$Network;LHeatNetwork$Shape;)V" } : Jvm.MethodName) prog_4_method_20_code (7 : Nat) (Option.none : Option Jvm.ClassFile.FieldType)) ∈ TB := tb_mem 546 (by decide +kernel) (by decide +kernel)
theorem wd_547 : (Jvm.Cond.methodLink "HeatNetwork$State" (208 : Nat) ({ cls := "HeatNetwork$State", name := "findLoopHeads", desc := "(LHeatNetwork$Network;LHeatNetwork$Shape;)V" } : Jvm.MethodName)) ∈ TB := tb_mem 547 (by decide +kernel) (by decide +kernel)
theorem wd_549 : (Jvm.Cond.instanceMethod ({ cls := "HeatNetwork$State", name := "findLoopHeads", desc := "(LHeatNetwork$Network;LHeatNetwork$Shape;)V" } : Jvm.MethodName)) ∈ TB := tb_mem 549 (by decide +kernel) (by decide +kernel)
theorem wd_550 : (Jvm.Cond.code ({ cls := "HeatNetwork$State", name := "findLoopHeads", desc := "(LHeatNetwork$Network;LHeatNetwork$Shape;)V" } : Jvm.MethodName) prog_4_method_21_code (6 : Nat) (Option.none : Option Jvm.ClassFile.FieldType)) ∈ TB := tb_mem 550 (by decide +kernel) (by decide +kernel)
theorem wd_551 : (Jvm.Cond.methodLink "HeatNetwork" (271 : Nat) ({ cls := "HeatNetwork$State", name := "greatestHead", desc := "(LHeatNetwork$Shape;)J" } : Jvm.MethodName)) ∈ TB := tb_mem 551 (by decide +kernel) (by decide +kernel)
theorem wd_552 : (Jvm.Cond.instanceMethod ({ cls := "HeatNetwork$State", name := "greatestHead", desc := "(LHeatNetwork$Shape;)J" } : Jvm.MethodName)) ∈ TB := tb_mem 552 (by decide +kernel) (by decide +kernel)
theorem wd_553 : (Jvm.Cond.selects "HeatNetwork$State" ({ cls := "HeatNetwork$State", name := "greatestHead", desc := "(LHeatNetwork$Shape;)J" } : Jvm.MethodName) ({ cls := "HeatNetwork$State", name := "greatestHead", desc := "(LHeatNetwork$Shape;)J" } : Jvm.MethodName)) ∈ TB := tb_mem 553 (by decide +kernel) (by decide +kernel)
theorem wd_554 : (Jvm.Cond.code ({ cls := "HeatNetwork$State", name := "greatestHead", desc := "(LHeatNetwork$Shape;)J" } : Jvm.MethodName) prog_4_method_6_code (7 : Nat) (Option.some Jvm.ClassFile.FieldType.long)) ∈ TB := tb_mem 554 (by decide +kernel) (by decide +kernel)
theorem wd_555 : (Jvm.Cond.methodLink "HeatNetwork$State" (111 : Nat) ({ cls := "java/lang/Math", name := "max", desc := "(JJ)J" } : Jvm.MethodName)) ∈ TB := tb_mem 555 (by decide +kernel) (by decide +kernel)
theorem wd_556 : (Jvm.Cond.static ({ cls := "java/lang/Math", name := "max", desc := "(JJ)J" } : Jvm.MethodName)) ∈ TB := tb_mem 556 (by decide +kernel) (by decide +kernel)
theorem wd_557 : (Jvm.Cond.code ({ cls := "java/lang/Math", name := "max", desc := "(JJ)J" } : Jvm.MethodName) prog_17_method_66_code (4 : Nat) (Option.some Jvm.ClassFile.FieldType.long)) ∈ TB := tb_mem 557 (by decide +kernel) (by decide +kernel)
theorem wd_566 : (Jvm.Cond.constantFloat "HeatNetwork" (351 : Nat) (1092616192 : UInt32)) ∈ TB := tb_mem 566 (by decide +kernel) (by decide +kernel)
theorem wd_571 : (Jvm.Cond.methodLink "HeatNetwork" (193 : Nat) ({ cls := "HeatNetwork$Network", name := "takeOver", desc := "(LHeatNetwork$Network;)V" } : Jvm.MethodName)) ∈ TB := tb_mem 571 (by decide +kernel) (by decide +kernel)
theorem wd_572 : (Jvm.Cond.instanceMethod ({ cls := "HeatNetwork$Network", name := "takeOver", desc := "(LHeatNetwork$Network;)V" } : Jvm.MethodName)) ∈ TB := tb_mem 572 (by decide +kernel) (by decide +kernel)
theorem wd_573 : (Jvm.Cond.selects "HeatNetwork$Network" ({ cls := "HeatNetwork$Network", name := "takeOver", desc := "(LHeatNetwork$Network;)V" } : Jvm.MethodName) ({ cls := "HeatNetwork$Network", name := "takeOver", desc := "(LHeatNetwork$Network;)V" } : Jvm.MethodName)) ∈ TB := tb_mem 573 (by decide +kernel) (by decide +kernel)
theorem wd_574 : (Jvm.Cond.code ({ cls := "HeatNetwork$Network", name := "takeOver", desc := "(LHeatNetwork$Network;)V" } : Jvm.MethodName) prog_2_method_2_code (2 : Nat) (Option.none : Option Jvm.ClassFile.FieldType)) ∈ TB := tb_mem 574 (by decide +kernel) (by decide +kernel)
theorem wd_575 : (Jvm.Cond.methodLink "HeatNetwork$Network" (77 : Nat) ({ cls := "java/lang/System", name := "arraycopy", desc := "(Ljava/lang/Object;ILjava/lang/Object;II)V" } : Jvm.MethodName)) ∈ TB := tb_mem 575 (by decide +kernel) (by decide +kernel)
theorem wd_664 : (Jvm.Cond.methodLink "HeatNetwork" (70 : Nat) ({ cls := "HeatNetwork", name := "settingReason", desc := "(II)I" } : Jvm.MethodName)) ∈ TB := tb_mem 664 (by decide +kernel) (by decide +kernel)
theorem wd_665 : (Jvm.Cond.static ({ cls := "HeatNetwork", name := "settingReason", desc := "(II)I" } : Jvm.MethodName)) ∈ TB := tb_mem 665 (by decide +kernel) (by decide +kernel)
theorem wd_666 : (Jvm.Cond.code ({ cls := "HeatNetwork", name := "settingReason", desc := "(II)I" } : Jvm.MethodName) prog_1_method_57_code (2 : Nat) (Option.some Jvm.ClassFile.FieldType.int)) ∈ TB := tb_mem 666 (by decide +kernel) (by decide +kernel)
theorem wd_667 : (Jvm.Cond.fieldLink "HeatNetwork" (394 : Nat) "HeatNetwork" "LEAST_VALUES" "[I") ∈ TB := tb_mem 667 (by decide +kernel) (by decide +kernel)
theorem wd_669 : (Jvm.Cond.fieldLink "HeatNetwork" (397 : Nat) "HeatNetwork" "GREATEST_VALUES" "[I") ∈ TB := tb_mem 669 (by decide +kernel) (by decide +kernel)
theorem wd_671 : (Jvm.Cond.classLink "HeatNetwork" (74 : Nat) "java/lang/IndexOutOfBoundsException") ∈ TB := tb_mem 671 (by decide +kernel) (by decide +kernel)
theorem wd_684 : (Jvm.Cond.classLink "HeatNetwork" (81 : Nat) "java/lang/IllegalArgumentException") ∈ TB := tb_mem 684 (by decide +kernel) (by decide +kernel)
theorem wd_700 : (Jvm.Cond.methodLink "HeatNetwork" (90 : Nat) ({ cls := "HeatNetwork", name := "beginChange", desc := "()V" } : Jvm.MethodName)) ∈ TB := tb_mem 700 (by decide +kernel) (by decide +kernel)
theorem wd_702 : (Jvm.Cond.instanceMethod ({ cls := "HeatNetwork", name := "beginChange", desc := "()V" } : Jvm.MethodName)) ∈ TB := tb_mem 702 (by decide +kernel) (by decide +kernel)
theorem wd_703 : (Jvm.Cond.code ({ cls := "HeatNetwork", name := "beginChange", desc := "()V" } : Jvm.MethodName) prog_1_method_41_code (1 : Nat) (Option.none : Option Jvm.ClassFile.FieldType)) ∈ TB := tb_mem 703 (by decide +kernel) (by decide +kernel)
theorem wd_704 : (Jvm.Cond.methodLink "HeatNetwork" (93 : Nat) ({ cls := "HeatNetwork", name := "endChange", desc := "()V" } : Jvm.MethodName)) ∈ TB := tb_mem 704 (by decide +kernel) (by decide +kernel)
theorem wd_706 : (Jvm.Cond.instanceMethod ({ cls := "HeatNetwork", name := "endChange", desc := "()V" } : Jvm.MethodName)) ∈ TB := tb_mem 706 (by decide +kernel) (by decide +kernel)
theorem wd_707 : (Jvm.Cond.code ({ cls := "HeatNetwork", name := "endChange", desc := "()V" } : Jvm.MethodName) prog_1_method_42_code (1 : Nat) (Option.none : Option Jvm.ClassFile.FieldType)) ∈ TB := tb_mem 707 (by decide +kernel) (by decide +kernel)
theorem wd_708 : (Jvm.Cond.methodLink "HeatNetwork" (359 : Nat) ({ cls := "java/lang/Math", name := "min", desc := "(II)I" } : Jvm.MethodName)) ∈ TB := tb_mem 708 (by decide +kernel) (by decide +kernel)
theorem wd_724 : (Jvm.Cond.methodLink "HeatNetwork" (100 : Nat) ({ cls := "HeatNetwork$Network", name := "pipeReason", desc := "(IIII)I" } : Jvm.MethodName)) ∈ TB := tb_mem 724 (by decide +kernel) (by decide +kernel)
theorem wd_725 : (Jvm.Cond.instanceMethod ({ cls := "HeatNetwork$Network", name := "pipeReason", desc := "(IIII)I" } : Jvm.MethodName)) ∈ TB := tb_mem 725 (by decide +kernel) (by decide +kernel)
theorem wd_726 : (Jvm.Cond.selects "HeatNetwork$Network" ({ cls := "HeatNetwork$Network", name := "pipeReason", desc := "(IIII)I" } : Jvm.MethodName) ({ cls := "HeatNetwork$Network", name := "pipeReason", desc := "(IIII)I" } : Jvm.MethodName)) ∈ TB := tb_mem 726 (by decide +kernel) (by decide +kernel)
theorem wd_727 : (Jvm.Cond.code ({ cls := "HeatNetwork$Network", name := "pipeReason", desc := "(IIII)I" } : Jvm.MethodName) prog_2_method_3_code (6 : Nat) (Option.some Jvm.ClassFile.FieldType.int)) ∈ TB := tb_mem 727 (by decide +kernel) (by decide +kernel)
theorem wd_729 : (Jvm.Cond.methodLink "HeatNetwork$Network" (91 : Nat) ({ cls := "HeatNetwork$Network", name := "hasPipe", desc := "(II)Z" } : Jvm.MethodName)) ∈ TB := tb_mem 729 (by decide +kernel) (by decide +kernel)
theorem wd_730 : (Jvm.Cond.instanceMethod ({ cls := "HeatNetwork$Network", name := "hasPipe", desc := "(II)Z" } : Jvm.MethodName)) ∈ TB := tb_mem 730 (by decide +kernel) (by decide +kernel)
theorem wd_731 : (Jvm.Cond.selects "HeatNetwork$Network" ({ cls := "HeatNetwork$Network", name := "hasPipe", desc := "(II)Z" } : Jvm.MethodName) ({ cls := "HeatNetwork$Network", name := "hasPipe", desc := "(II)Z" } : Jvm.MethodName)) ∈ TB := tb_mem 731 (by decide +kernel) (by decide +kernel)
theorem wd_732 : (Jvm.Cond.code ({ cls := "HeatNetwork$Network", name := "hasPipe", desc := "(II)Z" } : Jvm.MethodName) prog_2_method_12_code (4 : Nat) (Option.some Jvm.ClassFile.FieldType.boolean)) ∈ TB := tb_mem 732 (by decide +kernel) (by decide +kernel)
theorem wd_733 : (Jvm.Cond.methodLink "HeatNetwork$Network" (110 : Nat) ({ cls := "HeatNetwork$Network", name := "farEnd", desc := "(II)I" } : Jvm.MethodName)) ∈ TB := tb_mem 733 (by decide +kernel) (by decide +kernel)
theorem wd_734 : (Jvm.Cond.methodLink "HeatNetwork$Network" (95 : Nat) ({ cls := "HeatNetwork$Network", name := "partOf", desc := "(I)I" } : Jvm.MethodName)) ∈ TB := tb_mem 734 (by decide +kernel) (by decide +kernel)
theorem wd_735 : (Jvm.Cond.instanceMethod ({ cls := "HeatNetwork$Network", name := "partOf", desc := "(I)I" } : Jvm.MethodName)) ∈ TB := tb_mem 735 (by decide +kernel) (by decide +kernel)
theorem wd_736 : (Jvm.Cond.selects "HeatNetwork$Network" ({ cls := "HeatNetwork$Network", name := "partOf", desc := "(I)I" } : Jvm.MethodName) ({ cls := "HeatNetwork$Network", name := "partOf", desc := "(I)I" } : Jvm.MethodName)) ∈ TB := tb_mem 736 (by decide +kernel) (by decide +kernel)
theorem wd_737 : (Jvm.Cond.code ({ cls := "HeatNetwork$Network", name := "partOf", desc := "(I)I" } : Jvm.MethodName) prog_2_method_14_code (7 : Nat) (Option.some Jvm.ClassFile.FieldType.int)) ∈ TB := tb_mem 737 (by decide +kernel) (by decide +kernel)
theorem wd_738 : (Jvm.Cond.methodLink "HeatNetwork$Network" (99 : Nat) ({ cls := "HeatNetwork$Network", name := "pipesWithin", desc := "(I)I" } : Jvm.MethodName)) ∈ TB := tb_mem 738 (by decide +kernel) (by decide +kernel)
theorem wd_739 : (Jvm.Cond.instanceMethod ({ cls := "HeatNetwork$Network", name := "pipesWithin", desc := "(I)I" } : Jvm.MethodName)) ∈ TB := tb_mem 739 (by decide +kernel) (by decide +kernel)
theorem wd_740 : (Jvm.Cond.selects "HeatNetwork$Network" ({ cls := "HeatNetwork$Network", name := "pipesWithin", desc := "(I)I" } : Jvm.MethodName) ({ cls := "HeatNetwork$Network", name := "pipesWithin", desc := "(I)I" } : Jvm.MethodName)) ∈ TB := tb_mem 740 (by decide +kernel) (by decide +kernel)
theorem wd_741 : (Jvm.Cond.code ({ cls := "HeatNetwork$Network", name := "pipesWithin", desc := "(I)I" } : Jvm.MethodName) prog_2_method_15_code (4 : Nat) (Option.some Jvm.ClassFile.FieldType.int)) ∈ TB := tb_mem 741 (by decide +kernel) (by decide +kernel)
theorem wd_742 : (Jvm.Cond.methodLink "HeatNetwork$Network" (102 : Nat) ({ cls := "java/lang/Integer", name := "bitCount", desc := "(I)I" } : Jvm.MethodName)) ∈ TB := tb_mem 742 (by decide +kernel) (by decide +kernel)
theorem wd_743 : (Jvm.Cond.static ({ cls := "java/lang/Integer", name := "bitCount", desc := "(I)I" } : Jvm.MethodName)) ∈ TB := tb_mem 743 (by decide +kernel) (by decide +kernel)
theorem wd_744 : (Jvm.Cond.code ({ cls := "java/lang/Integer", name := "bitCount", desc := "(I)I" } : Jvm.MethodName) prog_16_method_49_code (1 : Nat) (Option.some Jvm.ClassFile.FieldType.int)) ∈ TB := tb_mem 744 (by decide +kernel) (by decide +kernel)
theorem wd_745 : (Jvm.Cond.constant "java/lang/Integer" (265 : Nat) (1431655765 : Int32)) ∈ TB := tb_mem 745 (by decide +kernel) (by decide +kernel)
theorem wd_746 : (Jvm.Cond.constant "java/lang/Integer" (266 : Nat) (858993459 : Int32)) ∈ TB := tb_mem 746 (by decide +kernel) (by decide +kernel)
theorem wd_747 : (Jvm.Cond.constant "java/lang/Integer" (267 : Nat) (252645135 : Int32)) ∈ TB := tb_mem 747 (by decide +kernel) (by decide +kernel)
theorem wd_748 : (Jvm.Cond.methodLink "HeatNetwork" (104 : Nat) ({ cls := "HeatNetwork", name := "refuseFor", desc := "(I)V" } : Jvm.MethodName)) ∈ TB := tb_mem 748 (by decide +kernel) (by decide +kernel)
theorem wd_750 : (Jvm.Cond.instanceMethod ({ cls := "HeatNetwork", name := "refuseFor", desc := "(I)V" } : Jvm.MethodName)) ∈ TB := tb_mem 750 (by decide +kernel) (by decide +kernel)
theorem wd_751 : (Jvm.Cond.code ({ cls := "HeatNetwork", name := "refuseFor", desc := "(I)V" } : Jvm.MethodName) prog_1_method_49_code (2 : Nat) (Option.none : Option Jvm.ClassFile.FieldType)) ∈ TB := tb_mem 751 (by decide +kernel) (by decide +kernel)
theorem wd_752 : (Jvm.Cond.classLink "HeatNetwork" (376 : Nat) "java/lang/UnsupportedOperationException") ∈ TB := tb_mem 752 (by decide +kernel) (by decide +kernel)
theorem wd_768 : (Jvm.Cond.methodLink "HeatNetwork" (108 : Nat) ({ cls := "HeatNetwork$Network", name := "putPipe", desc := "(IIII)V" } : Jvm.MethodName)) ∈ TB := tb_mem 768 (by decide +kernel) (by decide +kernel)
theorem wd_769 : (Jvm.Cond.instanceMethod ({ cls := "HeatNetwork$Network", name := "putPipe", desc := "(IIII)V" } : Jvm.MethodName)) ∈ TB := tb_mem 769 (by decide +kernel) (by decide +kernel)
theorem wd_770 : (Jvm.Cond.selects "HeatNetwork$Network" ({ cls := "HeatNetwork$Network", name := "putPipe", desc := "(IIII)V" } : Jvm.MethodName) ({ cls := "HeatNetwork$Network", name := "putPipe", desc := "(IIII)V" } : Jvm.MethodName)) ∈ TB := tb_mem 770 (by decide +kernel) (by decide +kernel)
theorem wd_771 : (Jvm.Cond.code ({ cls := "HeatNetwork$Network", name := "putPipe", desc := "(IIII)V" } : Jvm.MethodName) prog_2_method_6_code (5 : Nat) (Option.none : Option Jvm.ClassFile.FieldType)) ∈ TB := tb_mem 771 (by decide +kernel) (by decide +kernel)
theorem wd_779 : (Jvm.Cond.methodLink "HeatNetwork" (115 : Nat) ({ cls := "HeatNetwork", name := "needPipe", desc := "(I)V" } : Jvm.MethodName)) ∈ TB := tb_mem 779 (by decide +kernel) (by decide +kernel)
theorem wd_781 : (Jvm.Cond.instanceMethod ({ cls := "HeatNetwork", name := "needPipe", desc := "(I)V" } : Jvm.MethodName)) ∈ TB := tb_mem 781 (by decide +kernel) (by decide +kernel)
theorem wd_782 : (Jvm.Cond.code ({ cls := "HeatNetwork", name := "needPipe", desc := "(I)V" } : Jvm.MethodName) prog_1_method_50_code (2 : Nat) (Option.none : Option Jvm.ClassFile.FieldType)) ∈ TB := tb_mem 782 (by decide +kernel) (by decide +kernel)
theorem wd_784 : (Jvm.Cond.methodLink "HeatNetwork" (118 : Nat) ({ cls := "HeatNetwork$Network", name := "dropPipe", desc := "(I)V" } : Jvm.MethodName)) ∈ TB := tb_mem 784 (by decide +kernel) (by decide +kernel)
theorem wd_785 : (Jvm.Cond.instanceMethod ({ cls := "HeatNetwork$Network", name := "dropPipe", desc := "(I)V" } : Jvm.MethodName)) ∈ TB := tb_mem 785 (by decide +kernel) (by decide +kernel)
theorem wd_786 : (Jvm.Cond.selects "HeatNetwork$Network" ({ cls := "HeatNetwork$Network", name := "dropPipe", desc := "(I)V" } : Jvm.MethodName) ({ cls := "HeatNetwork$Network", name := "dropPipe", desc := "(I)V" } : Jvm.MethodName)) ∈ TB := tb_mem 786 (by decide +kernel) (by decide +kernel)
theorem wd_787 : (Jvm.Cond.code ({ cls := "HeatNetwork$Network", name := "dropPipe", desc := "(I)V" } : Jvm.MethodName) prog_2_method_7_code (3 : Nat) (Option.none : Option Jvm.ClassFile.FieldType)) ∈ TB := tb_mem 787 (by decide +kernel) (by decide +kernel)
theorem wd_795 : (Jvm.Cond.methodLink "HeatNetwork" (121 : Nat) ({ cls := "HeatNetwork$Network", name := "stationReason", desc := "(IIII)I" } : Jvm.MethodName)) ∈ TB := tb_mem 795 (by decide +kernel) (by decide +kernel)
theorem wd_796 : (Jvm.Cond.instanceMethod ({ cls := "HeatNetwork$Network", name := "stationReason", desc := "(IIII)I" } : Jvm.MethodName)) ∈ TB := tb_mem 796 (by decide +kernel) (by decide +kernel)
theorem wd_797 : (Jvm.Cond.selects "HeatNetwork$Network" ({ cls := "HeatNetwork$Network", name := "stationReason", desc := "(IIII)I" } : Jvm.MethodName) ({ cls := "HeatNetwork$Network", name := "stationReason", desc := "(IIII)I" } : Jvm.MethodName)) ∈ TB := tb_mem 797 (by decide +kernel) (by decide +kernel)
theorem wd_798 : (Jvm.Cond.code ({ cls := "HeatNetwork$Network", name := "stationReason", desc := "(IIII)I" } : Jvm.MethodName) prog_2_method_4_code (5 : Nat) (Option.some Jvm.ClassFile.FieldType.int)) ∈ TB := tb_mem 798 (by decide +kernel) (by decide +kernel)
theorem wd_799 : (Jvm.Cond.methodLink "HeatNetwork$Network" (107 : Nat) ({ cls := "HeatNetwork$Network", name := "hasStation", desc := "(I)Z" } : Jvm.MethodName)) ∈ TB := tb_mem 799 (by decide +kernel) (by decide +kernel)
theorem wd_800 : (Jvm.Cond.methodLink "HeatNetwork" (124 : Nat) ({ cls := "HeatNetwork$Network", name := "putStation", desc := "(IIII)V" } : Jvm.MethodName)) ∈ TB := tb_mem 800 (by decide +kernel) (by decide +kernel)
theorem wd_801 : (Jvm.Cond.instanceMethod ({ cls := "HeatNetwork$Network", name := "putStation", desc := "(IIII)V" } : Jvm.MethodName)) ∈ TB := tb_mem 801 (by decide +kernel) (by decide +kernel)
theorem wd_802 : (Jvm.Cond.selects "HeatNetwork$Network" ({ cls := "HeatNetwork$Network", name := "putStation", desc := "(IIII)V" } : Jvm.MethodName) ({ cls := "HeatNetwork$Network", name := "putStation", desc := "(IIII)V" } : Jvm.MethodName)) ∈ TB := tb_mem 802 (by decide +kernel) (by decide +kernel)
theorem wd_803 : (Jvm.Cond.code ({ cls := "HeatNetwork$Network", name := "putStation", desc := "(IIII)V" } : Jvm.MethodName) prog_2_method_8_code (5 : Nat) (Option.none : Option Jvm.ClassFile.FieldType)) ∈ TB := tb_mem 803 (by decide +kernel) (by decide +kernel)
theorem wd_804 : (Jvm.Cond.methodLink "HeatNetwork" (127 : Nat) ({ cls := "HeatNetwork$Network", name := "stationCount", desc := "()I" } : Jvm.MethodName)) ∈ TB := tb_mem 804 (by decide +kernel) (by decide +kernel)
theorem wd_805 : (Jvm.Cond.instanceMethod ({ cls := "HeatNetwork$Network", name := "stationCount", desc := "()I" } : Jvm.MethodName)) ∈ TB := tb_mem 805 (by decide +kernel) (by decide +kernel)
theorem wd_806 : (Jvm.Cond.selects "HeatNetwork$Network" ({ cls := "HeatNetwork$Network", name := "stationCount", desc := "()I" } : Jvm.MethodName) ({ cls := "HeatNetwork$Network", name := "stationCount", desc := "()I" } : Jvm.MethodName)) ∈ TB := tb_mem 806 (by decide +kernel) (by decide +kernel)
theorem wd_807 : (Jvm.Cond.code ({ cls := "HeatNetwork$Network", name := "stationCount", desc := "()I" } : Jvm.MethodName) prog_2_method_11_code (3 : Nat) (Option.some Jvm.ClassFile.FieldType.int)) ∈ TB := tb_mem 807 (by decide +kernel) (by decide +kernel)
theorem wd_815 : (Jvm.Cond.methodLink "HeatNetwork" (131 : Nat) ({ cls := "HeatNetwork$Network", name := "removalReason", desc := "(I)I" } : Jvm.MethodName)) ∈ TB := tb_mem 815 (by decide +kernel) (by decide +kernel)
theorem wd_816 : (Jvm.Cond.instanceMethod ({ cls := "HeatNetwork$Network", name := "removalReason", desc := "(I)I" } : Jvm.MethodName)) ∈ TB := tb_mem 816 (by decide +kernel) (by decide +kernel)
theorem wd_817 : (Jvm.Cond.selects "HeatNetwork$Network" ({ cls := "HeatNetwork$Network", name := "removalReason", desc := "(I)I" } : Jvm.MethodName) ({ cls := "HeatNetwork$Network", name := "removalReason", desc := "(I)I" } : Jvm.MethodName)) ∈ TB := tb_mem 817 (by decide +kernel) (by decide +kernel)
theorem wd_818 : (Jvm.Cond.code ({ cls := "HeatNetwork$Network", name := "removalReason", desc := "(I)I" } : Jvm.MethodName) prog_2_method_5_code (2 : Nat) (Option.some Jvm.ClassFile.FieldType.int)) ∈ TB := tb_mem 818 (by decide +kernel) (by decide +kernel)
theorem wd_819 : (Jvm.Cond.methodLink "HeatNetwork" (135 : Nat) ({ cls := "HeatNetwork$Network", name := "dropStation", desc := "(I)V" } : Jvm.MethodName)) ∈ TB := tb_mem 819 (by decide +kernel) (by decide +kernel)
theorem wd_820 : (Jvm.Cond.instanceMethod ({ cls := "HeatNetwork$Network", name := "dropStation", desc := "(I)V" } : Jvm.MethodName)) ∈ TB := tb_mem 820 (by decide +kernel) (by decide +kernel)
theorem wd_821 : (Jvm.Cond.selects "HeatNetwork$Network" ({ cls := "HeatNetwork$Network", name := "dropStation", desc := "(I)V" } : Jvm.MethodName) ({ cls := "HeatNetwork$Network", name := "dropStation", desc := "(I)V" } : Jvm.MethodName)) ∈ TB := tb_mem 821 (by decide +kernel) (by decide +kernel)
theorem wd_822 : (Jvm.Cond.code ({ cls := "HeatNetwork$Network", name := "dropStation", desc := "(I)V" } : Jvm.MethodName) prog_2_method_9_code (2 : Nat) (Option.none : Option Jvm.ClassFile.FieldType)) ∈ TB := tb_mem 822 (by decide +kernel) (by decide +kernel)
theorem wd_831 : (Jvm.Cond.methodLink "HeatNetwork" (138 : Nat) ({ cls := "HeatNetwork", name := "needStation", desc := "(I)V" } : Jvm.MethodName)) ∈ TB := tb_mem 831 (by decide +kernel) (by decide +kernel)
theorem wd_833 : (Jvm.Cond.instanceMethod ({ cls := "HeatNetwork", name := "needStation", desc := "(I)V" } : Jvm.MethodName)) ∈ TB := tb_mem 833 (by decide +kernel) (by decide +kernel)
theorem wd_834 : (Jvm.Cond.code ({ cls := "HeatNetwork", name := "needStation", desc := "(I)V" } : Jvm.MethodName) prog_1_method_51_code (2 : Nat) (Option.none : Option Jvm.ClassFile.FieldType)) ∈ TB := tb_mem 834 (by decide +kernel) (by decide +kernel)
theorem wd_835 : (Jvm.Cond.methodLink "HeatNetwork" (305 : Nat) ({ cls := "HeatNetwork$Network", name := "hasStation", desc := "(I)Z" } : Jvm.MethodName)) ∈ TB := tb_mem 835 (by decide +kernel) (by decide +kernel)
theorem wd_852 : (Jvm.Cond.methodLink "HeatNetwork" (141 : Nat) ({ cls := "HeatNetwork", name := "needRange", desc := "(III)V" } : Jvm.MethodName)) ∈ TB := tb_mem 852 (by decide +kernel) (by decide +kernel)
theorem wd_853 : (Jvm.Cond.static ({ cls := "HeatNetwork", name := "needRange", desc := "(III)V" } : Jvm.MethodName)) ∈ TB := tb_mem 853 (by decide +kernel) (by decide +kernel)
theorem wd_854 : (Jvm.Cond.code ({ cls := "HeatNetwork", name := "needRange", desc := "(III)V" } : Jvm.MethodName) prog_1_method_54_code (3 : Nat) (Option.none : Option Jvm.ClassFile.FieldType)) ∈ TB := tb_mem 854 (by decide +kernel) (by decide +kernel)
theorem wd_870 : (Jvm.Cond.methodLink "HeatNetwork" (157 : Nat) ({ cls := "HeatNetwork", name := "hoursReason", desc := "()I" } : Jvm.MethodName)) ∈ TB := tb_mem 870 (by decide +kernel) (by decide +kernel)
theorem wd_872 : (Jvm.Cond.instanceMethod ({ cls := "HeatNetwork", name := "hoursReason", desc := "()I" } : Jvm.MethodName)) ∈ TB := tb_mem 872 (by decide +kernel) (by decide +kernel)
theorem wd_873 : (Jvm.Cond.code ({ cls := "HeatNetwork", name := "hoursReason", desc := "()I" } : Jvm.MethodName) prog_1_method_47_code (1 : Nat) (Option.some Jvm.ClassFile.FieldType.int)) ∈ TB := tb_mem 873 (by decide +kernel) (by decide +kernel)
theorem wd_874 : (Jvm.Cond.methodLink "HeatNetwork" (160 : Nat) ({ cls := "HeatNetwork", name := "passHours", desc := "(I)V" } : Jvm.MethodName)) ∈ TB := tb_mem 874 (by decide +kernel) (by decide +kernel)
theorem wd_876 : (Jvm.Cond.instanceMethod ({ cls := "HeatNetwork", name := "passHours", desc := "(I)V" } : Jvm.MethodName)) ∈ TB := tb_mem 876 (by decide +kernel) (by decide +kernel)
theorem wd_877 : (Jvm.Cond.code ({ cls := "HeatNetwork", name := "passHours", desc := "(I)V" } : Jvm.MethodName) prog_1_method_48_code (9 : Nat) (Option.none : Option Jvm.ClassFile.FieldType)) ∈ TB := tb_mem 877 (by decide +kernel) (by decide +kernel)
theorem wd_878 : (Jvm.Cond.methodLink "HeatNetwork" (243 : Nat) ({ cls := "HeatNetwork$State", name := "stationHeat", desc := "(LHeatNetwork$Network;I)J" } : Jvm.MethodName)) ∈ TB := tb_mem 878 (by decide +kernel) (by decide +kernel)
theorem wd_879 : (Jvm.Cond.instanceMethod ({ cls := "HeatNetwork$State", name := "stationHeat", desc := "(LHeatNetwork$Network;I)J" } : Jvm.MethodName)) ∈ TB := tb_mem 879 (by decide +kernel) (by decide +kernel)
theorem wd_880 : (Jvm.Cond.selects "HeatNetwork$State" ({ cls := "HeatNetwork$State", name := "stationHeat", desc := "(LHeatNetwork$Network;I)J" } : Jvm.MethodName) ({ cls := "HeatNetwork$State", name := "stationHeat", desc := "(LHeatNetwork$Network;I)J" } : Jvm.MethodName)) ∈ TB := tb_mem 880 (by decide +kernel) (by decide +kernel)
theorem wd_881 : (Jvm.Cond.code ({ cls := "HeatNetwork$State", name := "stationHeat", desc := "(LHeatNetwork$Network;I)J" } : Jvm.MethodName) prog_4_method_3_code (3 : Nat) (Option.some Jvm.ClassFile.FieldType.long)) ∈ TB := tb_mem 881 (by decide +kernel) (by decide +kernel)
theorem wd_882 : (Jvm.Cond.methodLink "HeatNetwork" (323 : Nat) ({ cls := "HeatNetwork$Network", name := "countedHeat", desc := "(IJ)J" } : Jvm.MethodName)) ∈ TB := tb_mem 882 (by decide +kernel) (by decide +kernel)
theorem wd_883 : (Jvm.Cond.instanceMethod ({ cls := "HeatNetwork$Network", name := "countedHeat", desc := "(IJ)J" } : Jvm.MethodName)) ∈ TB := tb_mem 883 (by decide +kernel) (by decide +kernel)
theorem wd_884 : (Jvm.Cond.selects "HeatNetwork$Network" ({ cls := "HeatNetwork$Network", name := "countedHeat", desc := "(IJ)J" } : Jvm.MethodName) ({ cls := "HeatNetwork$Network", name := "countedHeat", desc := "(IJ)J" } : Jvm.MethodName)) ∈ TB := tb_mem 884 (by decide +kernel) (by decide +kernel)
theorem wd_885 : (Jvm.Cond.code ({ cls := "HeatNetwork$Network", name := "countedHeat", desc := "(IJ)J" } : Jvm.MethodName) prog_2_method_18_code (4 : Nat) (Option.some Jvm.ClassFile.FieldType.long)) ∈ TB := tb_mem 885 (by decide +kernel) (by decide +kernel)
theorem wd_886 : (Jvm.Cond.constantLong "HeatNetwork$Network" (122 : Nat) (1000 : Int64)) ∈ TB := tb_mem 886 (by decide +kernel) (by decide +kernel)
theorem wd_887 : (Jvm.Cond.methodLink "HeatNetwork$Network" (124 : Nat) ({ cls := "java/lang/Math", name := "floorDiv", desc := "(JJ)J" } : Jvm.MethodName)) ∈ TB := tb_mem 887 (by decide +kernel) (by decide +kernel)
theorem wd_888 : (Jvm.Cond.static ({ cls := "java/lang/Math", name := "floorDiv", desc := "(JJ)J" } : Jvm.MethodName)) ∈ TB := tb_mem 888 (by decide +kernel) (by decide +kernel)
theorem wd_889 : (Jvm.Cond.code ({ cls := "java/lang/Math", name := "floorDiv", desc := "(JJ)J" } : Jvm.MethodName) prog_17_method_49_code (6 : Nat) (Option.some Jvm.ClassFile.FieldType.long)) ∈ TB := tb_mem 889 (by decide +kernel) (by decide +kernel)
theorem wd_890 : (Jvm.Cond.methodLink "HeatNetwork" (327 : Nat) ({ cls := "HeatNetwork$Network", name := "paymentFor", desc := "(IJ)J" } : Jvm.MethodName)) ∈ TB := tb_mem 890 (by decide +kernel) (by decide +kernel)
theorem wd_891 : (Jvm.Cond.instanceMethod ({ cls := "HeatNetwork$Network", name := "paymentFor", desc := "(IJ)J" } : Jvm.MethodName)) ∈ TB := tb_mem 891 (by decide +kernel) (by decide +kernel)
theorem wd_892 : (Jvm.Cond.selects "HeatNetwork$Network" ({ cls := "HeatNetwork$Network", name := "paymentFor", desc := "(IJ)J" } : Jvm.MethodName) ({ cls := "HeatNetwork$Network", name := "paymentFor", desc := "(IJ)J" } : Jvm.MethodName)) ∈ TB := tb_mem 892 (by decide +kernel) (by decide +kernel)
theorem wd_893 : (Jvm.Cond.code ({ cls := "HeatNetwork$Network", name := "paymentFor", desc := "(IJ)J" } : Jvm.MethodName) prog_2_method_19_code (4 : Nat) (Option.some Jvm.ClassFile.FieldType.long)) ∈ TB := tb_mem 893 (by decide +kernel) (by decide +kernel)
theorem wd_894 : (Jvm.Cond.methodLink "HeatNetwork$Network" (127 : Nat) ({ cls := "HeatNetwork$Network", name := "tariffOf", desc := "(I)I" } : Jvm.MethodName)) ∈ TB := tb_mem 894 (by decide +kernel) (by decide +kernel)
theorem wd_895 : (Jvm.Cond.instanceMethod ({ cls := "HeatNetwork$Network", name := "tariffOf", desc := "(I)I" } : Jvm.MethodName)) ∈ TB := tb_mem 895 (by decide +kernel) (by decide +kernel)
theorem wd_896 : (Jvm.Cond.selects "HeatNetwork$Network" ({ cls := "HeatNetwork$Network", name := "tariffOf", desc := "(I)I" } : Jvm.MethodName) ({ cls := "HeatNetwork$Network", name := "tariffOf", desc := "(I)I" } : Jvm.MethodName)) ∈ TB := tb_mem 896 (by decide +kernel) (by decide +kernel)
theorem wd_897 : (Jvm.Cond.code ({ cls := "HeatNetwork$Network", name := "tariffOf", desc := "(I)I" } : Jvm.MethodName) prog_2_method_17_code (3 : Nat) (Option.some Jvm.ClassFile.FieldType.int)) ∈ TB := tb_mem 897 (by decide +kernel) (by decide +kernel)
theorem wd_898 : (Jvm.Cond.methodLink "HeatNetwork$Network" (119 : Nat) ({ cls := "java/lang/Math", name := "floorDiv", desc := "(II)I" } : Jvm.MethodName)) ∈ TB := tb_mem 898 (by decide +kernel) (by decide +kernel)
theorem wd_899 : (Jvm.Cond.static ({ cls := "java/lang/Math", name := "floorDiv", desc := "(II)I" } : Jvm.MethodName)) ∈ TB := tb_mem 899 (by decide +kernel) (by decide +kernel)
theorem wd_900 : (Jvm.Cond.code ({ cls := "java/lang/Math", name := "floorDiv", desc := "(II)I" } : Jvm.MethodName) prog_17_method_47_code (3 : Nat) (Option.some Jvm.ClassFile.FieldType.int)) ∈ TB := tb_mem 900 (by decide +kernel) (by decide +kernel)
theorem wd_901 : (Jvm.Cond.methodLink "HeatNetwork" (315 : Nat) ({ cls := "HeatNetwork$State", name := "madeHeat", desc := "(LHeatNetwork$Network;)J" } : Jvm.MethodName)) ∈ TB := tb_mem 901 (by decide +kernel) (by decide +kernel)
theorem wd_902 : (Jvm.Cond.instanceMethod ({ cls := "HeatNetwork$State", name := "madeHeat", desc := "(LHeatNetwork$Network;)J" } : Jvm.MethodName)) ∈ TB := tb_mem 902 (by decide +kernel) (by decide +kernel)
theorem wd_903 : (Jvm.Cond.selects "HeatNetwork$State" ({ cls := "HeatNetwork$State", name := "madeHeat", desc := "(LHeatNetwork$Network;)J" } : Jvm.MethodName) ({ cls := "HeatNetwork$State", name := "madeHeat", desc := "(LHeatNetwork$Network;)J" } : Jvm.MethodName)) ∈ TB := tb_mem 903 (by decide +kernel) (by decide +kernel)
theorem wd_904 : (Jvm.Cond.code ({ cls := "HeatNetwork$State", name := "madeHeat", desc := "(LHeatNetwork$Network;)J" } : Jvm.MethodName) prog_4_method_5_code (2 : Nat) (Option.some Jvm.ClassFile.FieldType.long)) ∈ TB := tb_mem 904 (by decide +kernel) (by decide +kernel)
theorem wd_905 : (Jvm.Cond.methodLink "HeatNetwork" (330 : Nat) ({ cls := "HeatNetwork$State", name := "allStationHeat", desc := "(LHeatNetwork$Network;)J" } : Jvm.MethodName)) ∈ TB := tb_mem 905 (by decide +kernel) (by decide +kernel)
theorem wd_906 : (Jvm.Cond.instanceMethod ({ cls := "HeatNetwork$State", name := "allStationHeat", desc := "(LHeatNetwork$Network;)J" } : Jvm.MethodName)) ∈ TB := tb_mem 906 (by decide +kernel) (by decide +kernel)
theorem wd_907 : (Jvm.Cond.selects "HeatNetwork$State" ({ cls := "HeatNetwork$State", name := "allStationHeat", desc := "(LHeatNetwork$Network;)J" } : Jvm.MethodName) ({ cls := "HeatNetwork$State", name := "allStationHeat", desc := "(LHeatNetwork$Network;)J" } : Jvm.MethodName)) ∈ TB := tb_mem 907 (by decide +kernel) (by decide +kernel)
theorem wd_908 : (Jvm.Cond.code ({ cls := "HeatNetwork$State", name := "allStationHeat", desc := "(LHeatNetwork$Network;)J" } : Jvm.MethodName) prog_4_method_4_code (5 : Nat) (Option.some Jvm.ClassFile.FieldType.long)) ∈ TB := tb_mem 908 (by decide +kernel) (by decide +kernel)
theorem wd_909 : (Jvm.Cond.methodLink "HeatNetwork$State" (99 : Nat) ({ cls := "HeatNetwork$State", name := "stationHeat", desc := "(LHeatNetwork$Network;I)J" } : Jvm.MethodName)) ∈ TB := tb_mem 909 (by decide +kernel) (by decide +kernel)
theorem wd_918 : (Jvm.Cond.classLink "HeatNetwork" (170 : Nat) "java/lang/IllegalStateException") ∈ TB := tb_mem 918 (by decide +kernel) (by decide +kernel)
theorem wd_941 : (Jvm.Cond.methodLink "HeatNetwork" (179 : Nat) ({ cls := "HeatNetwork$Text", name := "findFault", desc := "()I" } : Jvm.MethodName)) ∈ TB := tb_mem 941 (by decide +kernel) (by decide +kernel)
theorem wd_942 : (Jvm.Cond.instanceMethod ({ cls := "HeatNetwork$Text", name := "findFault", desc := "()I" } : Jvm.MethodName)) ∈ TB := tb_mem 942 (by decide +kernel) (by decide +kernel)
theorem wd_943 : (Jvm.Cond.selects "HeatNetwork$Text" ({ cls := "HeatNetwork$Text", name := "findFault", desc := "()I" } : Jvm.MethodName) ({ cls := "HeatNetwork$Text", name := "findFault", desc := "()I" } : Jvm.MethodName)) ∈ TB := tb_mem 943 (by decide +kernel) (by decide +kernel)
theorem wd_944 : (Jvm.Cond.code ({ cls := "HeatNetwork$Text", name := "findFault", desc := "()I" } : Jvm.MethodName) prog_5_method_3_code (1 : Nat) (Option.some Jvm.ClassFile.FieldType.int)) ∈ TB := tb_mem 944 (by decide +kernel) (by decide +kernel)
theorem wd_945 : (Jvm.Cond.methodLink "HeatNetwork$Text" (30 : Nat) ({ cls := "HeatNetwork$Text", name := "readDefinition", desc := "()Z" } : Jvm.MethodName)) ∈ TB := tb_mem 945 (by decide +kernel) (by decide +kernel)
theorem wd_947 : (Jvm.Cond.instanceMethod ({ cls := "HeatNetwork$Text", name := "readDefinition", desc := "()Z" } : Jvm.MethodName)) ∈ TB := tb_mem 947 (by decide +kernel) (by decide +kernel)
theorem wd_948 : (Jvm.Cond.code ({ cls := "HeatNetwork$Text", name := "readDefinition", desc := "()Z" } : Jvm.MethodName) prog_5_method_4_code (2 : Nat) (Option.some Jvm.ClassFile.FieldType.boolean)) ∈ TB := tb_mem 948 (by decide +kernel) (by decide +kernel)
theorem wd_949 : (Jvm.Cond.methodLink "HeatNetwork$Text" (38 : Nat) ({ cls := "HeatNetwork$Text", name := "nextSign", desc := "()C" } : Jvm.MethodName)) ∈ TB := tb_mem 949 (by decide +kernel) (by decide +kernel)
theorem wd_951 : (Jvm.Cond.instanceMethod ({ cls := "HeatNetwork$Text", name := "nextSign", desc := "()C" } : Jvm.MethodName)) ∈ TB := tb_mem 951 (by decide +kernel) (by decide +kernel)
theorem wd_952 : (Jvm.Cond.code ({ cls := "HeatNetwork$Text", name := "nextSign", desc := "()C" } : Jvm.MethodName) prog_5_method_5_code (1 : Nat) (Option.some Jvm.ClassFile.FieldType.char)) ∈ TB := tb_mem 952 (by decide +kernel) (by decide +kernel)
theorem wd_953 : (Jvm.Cond.methodLink "HeatNetwork$Text" (34 : Nat) ({ cls := "HeatNetwork$Text", name := "take", desc := "(C)Z" } : Jvm.MethodName)) ∈ TB := tb_mem 953 (by decide +kernel) (by decide +kernel)
theorem wd_955 : (Jvm.Cond.instanceMethod ({ cls := "HeatNetwork$Text", name := "take", desc := "(C)Z" } : Jvm.MethodName)) ∈ TB := tb_mem 955 (by decide +kernel) (by decide +kernel)
theorem wd_956 : (Jvm.Cond.code ({ cls := "HeatNetwork$Text", name := "take", desc := "(C)Z" } : Jvm.MethodName) prog_5_method_6_code (2 : Nat) (Option.some Jvm.ClassFile.FieldType.boolean)) ∈ TB := tb_mem 956 (by decide +kernel) (by decide +kernel)
theorem wd_957 : (Jvm.Cond.methodLink "HeatNetwork$Text" (42 : Nat) ({ cls := "HeatNetwork$Text", name := "readNumber", desc := "(II)Z" } : Jvm.MethodName)) ∈ TB := tb_mem 957 (by decide +kernel) (by decide +kernel)
theorem wd_959 : (Jvm.Cond.instanceMethod ({ cls := "HeatNetwork$Text", name := "readNumber", desc := "(II)Z" } : Jvm.MethodName)) ∈ TB := tb_mem 959 (by decide +kernel) (by decide +kernel)
theorem wd_960 : (Jvm.Cond.code ({ cls := "HeatNetwork$Text", name := "readNumber", desc := "(II)Z" } : Jvm.MethodName) prog_5_method_7_code (5 : Nat) (Option.some Jvm.ClassFile.FieldType.boolean)) ∈ TB := tb_mem 960 (by decide +kernel) (by decide +kernel)
theorem wd_962 : (Jvm.Cond.methodLink "HeatNetwork$Text" (46 : Nat) ({ cls := "HeatNetwork$Text", name := "readSigned", desc := "(I)Z" } : Jvm.MethodName)) ∈ TB := tb_mem 962 (by decide +kernel) (by decide +kernel)
theorem wd_964 : (Jvm.Cond.instanceMethod ({ cls := "HeatNetwork$Text", name := "readSigned", desc := "(I)Z" } : Jvm.MethodName)) ∈ TB := tb_mem 964 (by decide +kernel) (by decide +kernel)
theorem wd_965 : (Jvm.Cond.code ({ cls := "HeatNetwork$Text", name := "readSigned", desc := "(I)Z" } : Jvm.MethodName) prog_5_method_8_code (3 : Nat) (Option.some Jvm.ClassFile.FieldType.boolean)) ∈ TB := tb_mem 965 (by decide +kernel) (by decide +kernel)
theorem wd_966 : (Jvm.Cond.methodLink "HeatNetwork$Text" (56 : Nat) ({ cls := "HeatNetwork$Text", name := "valueOf", desc := "(II)I" } : Jvm.MethodName)) ∈ TB := tb_mem 966 (by decide +kernel) (by decide +kernel)
theorem wd_967 : (Jvm.Cond.instanceMethod ({ cls := "HeatNetwork$Text", name := "valueOf", desc := "(II)I" } : Jvm.MethodName)) ∈ TB := tb_mem 967 (by decide +kernel) (by decide +kernel)
theorem wd_968 : (Jvm.Cond.selects "HeatNetwork$Text" ({ cls := "HeatNetwork$Text", name := "valueOf", desc := "(II)I" } : Jvm.MethodName) ({ cls := "HeatNetwork$Text", name := "valueOf", desc := "(II)I" } : Jvm.MethodName)) ∈ TB := tb_mem 968 (by decide +kernel) (by decide +kernel)
theorem wd_969 : (Jvm.Cond.code ({ cls := "HeatNetwork$Text", name := "valueOf", desc := "(II)I" } : Jvm.MethodName) prog_5_method_2_code (3 : Nat) (Option.some Jvm.ClassFile.FieldType.int)) ∈ TB := tb_mem 969 (by decide +kernel) (by decide +kernel)
theorem wd_971 : (Jvm.Cond.methodLink "HeatNetwork" (190 : Nat) ({ cls := "HeatNetwork", name := "carryOut", desc := "(I)I" } : Jvm.MethodName)) ∈ TB := tb_mem 971 (by decide +kernel) (by decide +kernel)
theorem wd_973 : (Jvm.Cond.instanceMethod ({ cls := "HeatNetwork", name := "carryOut", desc := "(I)I" } : Jvm.MethodName)) ∈ TB := tb_mem 973 (by decide +kernel) (by decide +kernel)
theorem wd_974 : (Jvm.Cond.code ({ cls := "HeatNetwork", name := "carryOut", desc := "(I)I" } : Jvm.MethodName) prog_1_method_45_code (7 : Nat) (Option.some Jvm.ClassFile.FieldType.int)) ∈ TB := tb_mem 974 (by decide +kernel) (by decide +kernel)
theorem wd_975 : (Jvm.Cond.methodLink "HeatNetwork" (369 : Nat) ({ cls := "HeatNetwork$Text", name := "valueOf", desc := "(II)I" } : Jvm.MethodName)) ∈ TB := tb_mem 975 (by decide +kernel) (by decide +kernel)
theorem wd_976 : (Jvm.Cond.methodLink "HeatNetwork" (372 : Nat) ({ cls := "HeatNetwork", name := "definitionReason", desc := "(CIIII)I" } : Jvm.MethodName)) ∈ TB := tb_mem 976 (by decide +kernel) (by decide +kernel)
theorem wd_978 : (Jvm.Cond.instanceMethod ({ cls := "HeatNetwork", name := "definitionReason", desc := "(CIIII)I" } : Jvm.MethodName)) ∈ TB := tb_mem 978 (by decide +kernel) (by decide +kernel)
theorem wd_979 : (Jvm.Cond.code ({ cls := "HeatNetwork", name := "definitionReason", desc := "(CIIII)I" } : Jvm.MethodName) prog_1_method_46_code (6 : Nat) (Option.some Jvm.ClassFile.FieldType.int)) ∈ TB := tb_mem 979 (by decide +kernel) (by decide +kernel)
theorem wd_1002 : (Jvm.Cond.methodLink "HeatNetwork" (224 : Nat) ({ cls := "HeatNetwork$Network", name := "wantedHeat", desc := "(I)I" } : Jvm.MethodName)) ∈ TB := tb_mem 1002 (by decide +kernel) (by decide +kernel)
theorem wd_1003 : (Jvm.Cond.methodLink "HeatNetwork" (230 : Nat) ({ cls := "HeatNetwork$Network", name := "tariffOf", desc := "(I)I" } : Jvm.MethodName)) ∈ TB := tb_mem 1003 (by decide +kernel) (by decide +kernel)
theorem wd_1032 : (Jvm.Cond.methodLink "HeatNetwork" (250 : Nat) ({ cls := "HeatNetwork", name := "needNode", desc := "(I)V" } : Jvm.MethodName)) ∈ TB := tb_mem 1032 (by decide +kernel) (by decide +kernel)
theorem wd_1033 : (Jvm.Cond.static ({ cls := "HeatNetwork", name := "needNode", desc := "(I)V" } : Jvm.MethodName)) ∈ TB := tb_mem 1033 (by decide +kernel) (by decide +kernel)
theorem wd_1034 : (Jvm.Cond.code ({ cls := "HeatNetwork", name := "needNode", desc := "(I)V" } : Jvm.MethodName) prog_1_method_53_code (1 : Nat) (Option.none : Option Jvm.ClassFile.FieldType)) ∈ TB := tb_mem 1034 (by decide +kernel) (by decide +kernel)
theorem wd_1035 : (Jvm.Cond.methodLink "HeatNetwork" (385 : Nat) ({ cls := "HeatNetwork", name := "isNode", desc := "(I)Z" } : Jvm.MethodName)) ∈ TB := tb_mem 1035 (by decide +kernel) (by decide +kernel)
theorem wd_1058 : (Jvm.Cond.methodLink "HeatNetwork" (265 : Nat) ({ cls := "HeatNetwork", name := "needConnected", desc := "(I)V" } : Jvm.MethodName)) ∈ TB := tb_mem 1058 (by decide +kernel) (by decide +kernel)
theorem wd_1060 : (Jvm.Cond.instanceMethod ({ cls := "HeatNetwork", name := "needConnected", desc := "(I)V" } : Jvm.MethodName)) ∈ TB := tb_mem 1060 (by decide +kernel) (by decide +kernel)
theorem wd_1061 : (Jvm.Cond.code ({ cls := "HeatNetwork", name := "needConnected", desc := "(I)V" } : Jvm.MethodName) prog_1_method_52_code (2 : Nat) (Option.none : Option Jvm.ClassFile.FieldType)) ∈ TB := tb_mem 1061 (by decide +kernel) (by decide +kernel)
theorem wd_1093 : (Jvm.Cond.methodLink "HeatNetwork" (294 : Nat) ({ cls := "HeatNetwork$Network", name := "partOf", desc := "(I)I" } : Jvm.MethodName)) ∈ TB := tb_mem 1093 (by decide +kernel) (by decide +kernel)
theorem wd_1108 : (Jvm.Cond.constantLong "HeatNetwork" (297 : Nat) (-1 : Int64)) ∈ TB := tb_mem 1108 (by decide +kernel) (by decide +kernel)
theorem wd_1109 : (Jvm.Cond.methodLink "HeatNetwork" (299 : Nat) ({ cls := "java/lang/Math", name := "abs", desc := "(J)J" } : Jvm.MethodName)) ∈ TB := tb_mem 1109 (by decide +kernel) (by decide +kernel)
theorem wd_1110 : (Jvm.Cond.static ({ cls := "java/lang/Math", name := "abs", desc := "(J)J" } : Jvm.MethodName)) ∈ TB := tb_mem 1110 (by decide +kernel) (by decide +kernel)
theorem wd_1111 : (Jvm.Cond.code ({ cls := "java/lang/Math", name := "abs", desc := "(J)J" } : Jvm.MethodName) prog_17_method_61_code (2 : Nat) (Option.some Jvm.ClassFile.FieldType.long)) ∈ TB := tb_mem 1111 (by decide +kernel) (by decide +kernel)
theorem wd_1120 : (Jvm.Cond.methodLink "HeatNetwork" (311 : Nat) ({ cls := "HeatNetwork", name := "tryReturn", desc := "(II)V" } : Jvm.MethodName)) ∈ TB := tb_mem 1120 (by decide +kernel) (by decide +kernel)
theorem wd_1122 : (Jvm.Cond.instanceMethod ({ cls := "HeatNetwork", name := "tryReturn", desc := "(II)V" } : Jvm.MethodName)) ∈ TB := tb_mem 1122 (by decide +kernel) (by decide +kernel)
theorem wd_1123 : (Jvm.Cond.code ({ cls := "HeatNetwork", name := "tryReturn", desc := "(II)V" } : Jvm.MethodName) prog_1_method_44_code (3 : Nat) (Option.none : Option Jvm.ClassFile.FieldType)) ∈ TB := tb_mem 1123 (by decide +kernel) (by decide +kernel)
theorem wd_1131 : (Jvm.Cond.constantLong "HeatNetwork" (321 : Nat) (9223372036854775807 : Int64)) ∈ TB := tb_mem 1131 (by decide +kernel) (by decide +kernel)
theorem wd_1139 : (Jvm.Cond.methodLink "HeatNetwork" (333 : Nat) ({ cls := "HeatNetwork", name := "sumOf", desc := "([J)J" } : Jvm.MethodName)) ∈ TB := tb_mem 1139 (by decide +kernel) (by decide +kernel)
theorem wd_1140 : (Jvm.Cond.static ({ cls := "HeatNetwork", name := "sumOf", desc := "([J)J" } : Jvm.MethodName)) ∈ TB := tb_mem 1140 (by decide +kernel) (by decide +kernel)
theorem wd_1141 : (Jvm.Cond.code ({ cls := "HeatNetwork", name := "sumOf", desc := "([J)J" } : Jvm.MethodName) prog_1_method_58_code (4 : Nat) (Option.some Jvm.ClassFile.FieldType.long)) ∈ TB := tb_mem 1141 (by decide +kernel) (by decide +kernel)
theorem wd_1163 : (Jvm.Cond.classLink "HeatNetwork" (346 : Nat) "java/lang/ArithmeticException") ∈ TB := tb_mem 1163 (by decide +kernel) (by decide +kernel)
theorem wd_1196 : (Jvm.Cond.fieldLink "HeatNetworkModel" (86 : Nat) "HeatNetworkModel" "thrown" "I") ∈ TB := tb_mem 1196 (by decide +kernel) (by decide +kernel)
theorem wd_1197 : (Jvm.Cond.fieldLink "HeatNetworkModel" (9 : Nat) "HeatNetworkModel" "now" "[I") ∈ TB := tb_mem 1197 (by decide +kernel) (by decide +kernel)
theorem wd_1198 : (Jvm.Cond.fieldLink "HeatNetworkModel" (13 : Nat) "HeatNetworkModel" "sums" "[J") ∈ TB := tb_mem 1198 (by decide +kernel) (by decide +kernel)
theorem wd_1199 : (Jvm.Cond.fieldLink "HeatNetworkModel" (17 : Nat) "HeatNetworkModel" "kept" "[I") ∈ TB := tb_mem 1199 (by decide +kernel) (by decide +kernel)
theorem wd_1200 : (Jvm.Cond.fieldLink "HeatNetworkModel" (20 : Nat) "HeatNetworkModel" "keptSums" "[J") ∈ TB := tb_mem 1200 (by decide +kernel) (by decide +kernel)
theorem wd_1201 : (Jvm.Cond.fieldLink "HeatNetworkModel" (255 : Nat) "HeatNetworkModel" "undos" "I") ∈ TB := tb_mem 1201 (by decide +kernel) (by decide +kernel)
theorem wd_1202 : (Jvm.Cond.fieldLink "HeatNetworkModel" (23 : Nat) "HeatNetworkModel" "saved" "[I") ∈ TB := tb_mem 1202 (by decide +kernel) (by decide +kernel)
theorem wd_1203 : (Jvm.Cond.fieldLink "HeatNetworkModel" (26 : Nat) "HeatNetworkModel" "savedSums" "[J") ∈ TB := tb_mem 1203 (by decide +kernel) (by decide +kernel)
theorem wd_1204 : (Jvm.Cond.fieldLink "HeatNetworkModel" (317 : Nat) "HeatNetworkModel" "isSaved" "Z") ∈ TB := tb_mem 1204 (by decide +kernel) (by decide +kernel)
theorem wd_1205 : (Jvm.Cond.fieldLink "HeatNetworkModel" (29 : Nat) "HeatNetworkModel" "tried" "[I") ∈ TB := tb_mem 1205 (by decide +kernel) (by decide +kernel)
theorem wd_1206 : (Jvm.Cond.fieldLink "HeatNetworkModel" (32 : Nat) "HeatNetworkModel" "triedSums" "[J") ∈ TB := tb_mem 1206 (by decide +kernel) (by decide +kernel)
theorem wd_1207 : (Jvm.Cond.fieldLink "HeatNetworkModel" (35 : Nat) "HeatNetworkModel" "buffer" "[I") ∈ TB := tb_mem 1207 (by decide +kernel) (by decide +kernel)
theorem wd_1208 : (Jvm.Cond.fieldLink "HeatNetworkModel" (280 : Nat) "HeatNetworkModel" "length" "I") ∈ TB := tb_mem 1208 (by decide +kernel) (by decide +kernel)
theorem wd_1209 : (Jvm.Cond.fieldLink "HeatNetworkModel" (283 : Nat) "HeatNetworkModel" "at" "I") ∈ TB := tb_mem 1209 (by decide +kernel) (by decide +kernel)
theorem wd_1210 : (Jvm.Cond.fieldLink "HeatNetworkModel" (38 : Nat) "HeatNetworkModel" "fault" "I") ∈ TB := tb_mem 1210 (by decide +kernel) (by decide +kernel)
theorem wd_1211 : (Jvm.Cond.fieldLink "HeatNetworkModel" (89 : Nat) "HeatNetworkModel" "refusal" "I") ∈ TB := tb_mem 1211 (by decide +kernel) (by decide +kernel)
theorem wd_1212 : (Jvm.Cond.fieldLink "HeatNetworkModel" (42 : Nat) "HeatNetworkModel" "far" "[I") ∈ TB := tb_mem 1212 (by decide +kernel) (by decide +kernel)
theorem wd_1213 : (Jvm.Cond.fieldLink "HeatNetworkModel" (45 : Nat) "HeatNetworkModel" "queue" "[I") ∈ TB := tb_mem 1213 (by decide +kernel) (by decide +kernel)
theorem wd_1214 : (Jvm.Cond.fieldLink "HeatNetworkModel" (48 : Nat) "HeatNetworkModel" "degree" "[I") ∈ TB := tb_mem 1214 (by decide +kernel) (by decide +kernel)
theorem wd_1215 : (Jvm.Cond.fieldLink "HeatNetworkModel" (51 : Nat) "HeatNetworkModel" "inLoop" "[Z") ∈ TB := tb_mem 1215 (by decide +kernel) (by decide +kernel)
theorem wd_1216 : (Jvm.Cond.fieldLink "HeatNetworkModel" (55 : Nat) "HeatNetworkModel" "loop" "[I") ∈ TB := tb_mem 1216 (by decide +kernel) (by decide +kernel)
theorem wd_1217 : (Jvm.Cond.fieldLink "HeatNetworkModel" (58 : Nat) "HeatNetworkModel" "loopPipe" "[I") ∈ TB := tb_mem 1217 (by decide +kernel) (by decide +kernel)
theorem wd_1218 : (Jvm.Cond.fieldLink "HeatNetworkModel" (121 : Nat) "HeatNetworkModel" "loops" "I") ∈ TB := tb_mem 1218 (by decide +kernel) (by decide +kernel)
theorem wd_1219 : (Jvm.Cond.fieldLink "HeatNetworkModel" (61 : Nat) "HeatNetworkModel" "draws" "[I") ∈ TB := tb_mem 1219 (by decide +kernel) (by decide +kernel)
theorem wd_1220 : (Jvm.Cond.fieldLink "HeatNetworkModel" (64 : Nat) "HeatNetworkModel" "drew" "[I") ∈ TB := tb_mem 1220 (by decide +kernel) (by decide +kernel)
theorem wd_1221 : (Jvm.Cond.fieldLink "HeatNetworkModel" (67 : Nat) "HeatNetworkModel" "behind" "[J") ∈ TB := tb_mem 1221 (by decide +kernel) (by decide +kernel)
theorem wd_1222 : (Jvm.Cond.fieldLink "HeatNetworkModel" (70 : Nat) "HeatNetworkModel" "flow" "[I") ∈ TB := tb_mem 1222 (by decide +kernel) (by decide +kernel)
theorem wd_1223 : (Jvm.Cond.fieldLink "HeatNetworkModel" (73 : Nat) "HeatNetworkModel" "hot" "[I") ∈ TB := tb_mem 1223 (by decide +kernel) (by decide +kernel)
theorem wd_1224 : (Jvm.Cond.fieldLink "HeatNetworkModel" (76 : Nat) "HeatNetworkModel" "back" "[I") ∈ TB := tb_mem 1224 (by decide +kernel) (by decide +kernel)
theorem wd_1225 : (Jvm.Cond.fieldLink "HeatNetworkModel" (79 : Nat) "HeatNetworkModel" "rest" "[J") ∈ TB := tb_mem 1225 (by decide +kernel) (by decide +kernel)
theorem wd_1226 : (Jvm.Cond.fieldLink "HeatNetworkModel" (82 : Nat) "HeatNetworkModel" "isKnown" "[Z") ∈ TB := tb_mem 1226 (by decide +kernel) (by decide +kernel)
theorem wd_1227 : (Jvm.Cond.fieldLink "HeatNetworkModel" (151 : Nat) "HeatNetworkModel" "imbalance" "J") ∈ TB := tb_mem 1227 (by decide +kernel) (by decide +kernel)
theorem wd_1228 : (Jvm.Cond.fieldLink "HeatNetworkModel" (200 : Nat) "HeatNetworkModel" "rounds" "I") ∈ TB := tb_mem 1228 (by decide +kernel) (by decide +kernel)
theorem wd_1304 : (Jvm.Cond.methodLink "HeatNetworkModel" (96 : Nat) ({ cls := "HeatNetworkModel", name := "in", desc := "(III)Z" } : Jvm.MethodName)) ∈ TB := tb_mem 1304 (by decide +kernel) (by decide +kernel)
theorem wd_1305 : (Jvm.Cond.static ({ cls := "HeatNetworkModel", name := "in", desc := "(III)Z" } : Jvm.MethodName)) ∈ TB := tb_mem 1305 (by decide +kernel) (by decide +kernel)
theorem wd_1306 : (Jvm.Cond.code ({ cls := "HeatNetworkModel", name := "in", desc := "(III)Z" } : Jvm.MethodName) prog_7_method_5_code (3 : Nat) (Option.some Jvm.ClassFile.FieldType.boolean)) ∈ TB := tb_mem 1306 (by decide +kernel) (by decide +kernel)
theorem wd_1307 : (Jvm.Cond.methodLink "HeatNetworkModel" (92 : Nat) ({ cls := "HeatNetworkModel", name := "raises", desc := "(I)I" } : Jvm.MethodName)) ∈ TB := tb_mem 1307 (by decide +kernel) (by decide +kernel)
theorem wd_1309 : (Jvm.Cond.instanceMethod ({ cls := "HeatNetworkModel", name := "raises", desc := "(I)I" } : Jvm.MethodName)) ∈ TB := tb_mem 1309 (by decide +kernel) (by decide +kernel)
theorem wd_1310 : (Jvm.Cond.code ({ cls := "HeatNetworkModel", name := "raises", desc := "(I)I" } : Jvm.MethodName) prog_7_method_3_code (2 : Nat) (Option.some Jvm.ClassFile.FieldType.int)) ∈ TB := tb_mem 1310 (by decide +kernel) (by decide +kernel)
theorem wd_1311 : (Jvm.Cond.methodLink "HeatNetworkModel" (232 : Nat) ({ cls := "HeatNetworkModel", name := "isSettingValue", desc := "(II)Z" } : Jvm.MethodName)) ∈ TB := tb_mem 1311 (by decide +kernel) (by decide +kernel)
theorem wd_1312 : (Jvm.Cond.static ({ cls := "HeatNetworkModel", name := "isSettingValue", desc := "(II)Z" } : Jvm.MethodName)) ∈ TB := tb_mem 1312 (by decide +kernel) (by decide +kernel)
theorem wd_1313 : (Jvm.Cond.code ({ cls := "HeatNetworkModel", name := "isSettingValue", desc := "(II)Z" } : Jvm.MethodName) prog_7_method_39_code (2 : Nat) (Option.some Jvm.ClassFile.FieldType.boolean)) ∈ TB := tb_mem 1313 (by decide +kernel) (by decide +kernel)
theorem wd_1314 : (Jvm.Cond.constant "HeatNetworkModel" (228 : Nat) (999999999 : Int32)) ∈ TB := tb_mem 1314 (by decide +kernel) (by decide +kernel)
theorem wd_1315 : (Jvm.Cond.methodLink "HeatNetworkModel" (252 : Nat) ({ cls := "HeatNetworkModel", name := "changes", desc := "()V" } : Jvm.MethodName)) ∈ TB := tb_mem 1315 (by decide +kernel) (by decide +kernel)
theorem wd_1317 : (Jvm.Cond.instanceMethod ({ cls := "HeatNetworkModel", name := "changes", desc := "()V" } : Jvm.MethodName)) ∈ TB := tb_mem 1317 (by decide +kernel) (by decide +kernel)
theorem wd_1318 : (Jvm.Cond.code ({ cls := "HeatNetworkModel", name := "changes", desc := "()V" } : Jvm.MethodName) prog_7_method_7_code (1 : Nat) (Option.none : Option Jvm.ClassFile.FieldType)) ∈ TB := tb_mem 1318 (by decide +kernel) (by decide +kernel)
theorem wd_1319 : (Jvm.Cond.methodLink "HeatNetworkModel" (100 : Nat) ({ cls := "HeatNetworkModel", name := "tries", desc := "()V" } : Jvm.MethodName)) ∈ TB := tb_mem 1319 (by decide +kernel) (by decide +kernel)
theorem wd_1321 : (Jvm.Cond.instanceMethod ({ cls := "HeatNetworkModel", name := "tries", desc := "()V" } : Jvm.MethodName)) ∈ TB := tb_mem 1321 (by decide +kernel) (by decide +kernel)
theorem wd_1322 : (Jvm.Cond.code ({ cls := "HeatNetworkModel", name := "tries", desc := "()V" } : Jvm.MethodName) prog_7_method_47_code (2 : Nat) (Option.none : Option Jvm.ClassFile.FieldType)) ∈ TB := tb_mem 1322 (by decide +kernel) (by decide +kernel)
theorem wd_1323 : (Jvm.Cond.methodLink "HeatNetworkModel" (103 : Nat) ({ cls := "HeatNetworkModel", name := "keeps", desc := "()V" } : Jvm.MethodName)) ∈ TB := tb_mem 1323 (by decide +kernel) (by decide +kernel)
theorem wd_1325 : (Jvm.Cond.instanceMethod ({ cls := "HeatNetworkModel", name := "keeps", desc := "()V" } : Jvm.MethodName)) ∈ TB := tb_mem 1325 (by decide +kernel) (by decide +kernel)
theorem wd_1326 : (Jvm.Cond.code ({ cls := "HeatNetworkModel", name := "keeps", desc := "()V" } : Jvm.MethodName) prog_7_method_49_code (2 : Nat) (Option.none : Option Jvm.ClassFile.FieldType)) ∈ TB := tb_mem 1326 (by decide +kernel) (by decide +kernel)
theorem wd_1335 : (Jvm.Cond.methodLink "HeatNetworkModel" (258 : Nat) ({ cls := "HeatNetworkModel", name := "pipeBy", desc := "(IIII)I" } : Jvm.MethodName)) ∈ TB := tb_mem 1335 (by decide +kernel) (by decide +kernel)
theorem wd_1337 : (Jvm.Cond.instanceMethod ({ cls := "HeatNetworkModel", name := "pipeBy", desc := "(IIII)I" } : Jvm.MethodName)) ∈ TB := tb_mem 1337 (by decide +kernel) (by decide +kernel)
theorem wd_1338 : (Jvm.Cond.code ({ cls := "HeatNetworkModel", name := "pipeBy", desc := "(IIII)I" } : Jvm.MethodName) prog_7_method_40_code (9 : Nat) (Option.some Jvm.ClassFile.FieldType.int)) ∈ TB := tb_mem 1338 (by decide +kernel) (by decide +kernel)
theorem wd_1339 : (Jvm.Cond.methodLink "HeatNetworkModel" (229 : Nat) ({ cls := "HeatNetworkModel", name := "isNode", desc := "(I)Z" } : Jvm.MethodName)) ∈ TB := tb_mem 1339 (by decide +kernel) (by decide +kernel)
theorem wd_1340 : (Jvm.Cond.static ({ cls := "HeatNetworkModel", name := "isNode", desc := "(I)Z" } : Jvm.MethodName)) ∈ TB := tb_mem 1340 (by decide +kernel) (by decide +kernel)
theorem wd_1341 : (Jvm.Cond.code ({ cls := "HeatNetworkModel", name := "isNode", desc := "(I)Z" } : Jvm.MethodName) prog_7_method_6_code (1 : Nat) (Option.some Jvm.ClassFile.FieldType.boolean)) ∈ TB := tb_mem 1341 (by decide +kernel) (by decide +kernel)
theorem wd_1342 : (Jvm.Cond.methodLink "HeatNetworkModel" (106 : Nat) ({ cls := "HeatNetworkModel", name := "pipes", desc := "()I" } : Jvm.MethodName)) ∈ TB := tb_mem 1342 (by decide +kernel) (by decide +kernel)
theorem wd_1344 : (Jvm.Cond.instanceMethod ({ cls := "HeatNetworkModel", name := "pipes", desc := "()I" } : Jvm.MethodName)) ∈ TB := tb_mem 1344 (by decide +kernel) (by decide +kernel)
theorem wd_1345 : (Jvm.Cond.code ({ cls := "HeatNetworkModel", name := "pipes", desc := "()I" } : Jvm.MethodName) prog_7_method_8_code (1 : Nat) (Option.some Jvm.ClassFile.FieldType.int)) ∈ TB := tb_mem 1345 (by decide +kernel) (by decide +kernel)
theorem wd_1346 : (Jvm.Cond.methodLink "HeatNetworkModel" (114 : Nat) ({ cls := "HeatNetworkModel", name := "across", desc := "(II)I" } : Jvm.MethodName)) ∈ TB := tb_mem 1346 (by decide +kernel) (by decide +kernel)
theorem wd_1348 : (Jvm.Cond.instanceMethod ({ cls := "HeatNetworkModel", name := "across", desc := "(II)I" } : Jvm.MethodName)) ∈ TB := tb_mem 1348 (by decide +kernel) (by decide +kernel)
theorem wd_1349 : (Jvm.Cond.code ({ cls := "HeatNetworkModel", name := "across", desc := "(II)I" } : Jvm.MethodName) prog_7_method_11_code (3 : Nat) (Option.some Jvm.ClassFile.FieldType.int)) ∈ TB := tb_mem 1349 (by decide +kernel) (by decide +kernel)
theorem wd_1350 : (Jvm.Cond.methodLink "HeatNetworkModel" (110 : Nat) ({ cls := "HeatNetworkModel", name := "of", desc := "(II)I" } : Jvm.MethodName)) ∈ TB := tb_mem 1350 (by decide +kernel) (by decide +kernel)
theorem wd_1352 : (Jvm.Cond.instanceMethod ({ cls := "HeatNetworkModel", name := "of", desc := "(II)I" } : Jvm.MethodName)) ∈ TB := tb_mem 1352 (by decide +kernel) (by decide +kernel)
theorem wd_1353 : (Jvm.Cond.code ({ cls := "HeatNetworkModel", name := "of", desc := "(II)I" } : Jvm.MethodName) prog_7_method_10_code (3 : Nat) (Option.some Jvm.ClassFile.FieldType.int)) ∈ TB := tb_mem 1353 (by decide +kernel) (by decide +kernel)
theorem wd_1354 : (Jvm.Cond.methodLink "HeatNetworkModel" (117 : Nat) ({ cls := "HeatNetworkModel", name := "measure", desc := "(I)V" } : Jvm.MethodName)) ∈ TB := tb_mem 1354 (by decide +kernel) (by decide +kernel)
theorem wd_1356 : (Jvm.Cond.instanceMethod ({ cls := "HeatNetworkModel", name := "measure", desc := "(I)V" } : Jvm.MethodName)) ∈ TB := tb_mem 1356 (by decide +kernel) (by decide +kernel)
theorem wd_1357 : (Jvm.Cond.code ({ cls := "HeatNetworkModel", name := "measure", desc := "(I)V" } : Jvm.MethodName) prog_7_method_12_code (7 : Nat) (Option.none : Option Jvm.ClassFile.FieldType)) ∈ TB := tb_mem 1357 (by decide +kernel) (by decide +kernel)
theorem wd_1358 : (Jvm.Cond.methodLink "HeatNetworkModel" (262 : Nat) ({ cls := "HeatNetworkModel", name := "refuses", desc := "(II)I" } : Jvm.MethodName)) ∈ TB := tb_mem 1358 (by decide +kernel) (by decide +kernel)
theorem wd_1360 : (Jvm.Cond.instanceMethod ({ cls := "HeatNetworkModel", name := "refuses", desc := "(II)I" } : Jvm.MethodName)) ∈ TB := tb_mem 1360 (by decide +kernel) (by decide +kernel)
theorem wd_1361 : (Jvm.Cond.code ({ cls := "HeatNetworkModel", name := "refuses", desc := "(II)I" } : Jvm.MethodName) prog_7_method_4_code (3 : Nat) (Option.some Jvm.ClassFile.FieldType.int)) ∈ TB := tb_mem 1361 (by decide +kernel) (by decide +kernel)
theorem wd_1366 : (Jvm.Cond.methodLink "HeatNetworkModel" (265 : Nat) ({ cls := "HeatNetworkModel", name := "isPipe", desc := "(I)Z" } : Jvm.MethodName)) ∈ TB := tb_mem 1366 (by decide +kernel) (by decide +kernel)
theorem wd_1368 : (Jvm.Cond.instanceMethod ({ cls := "HeatNetworkModel", name := "isPipe", desc := "(I)Z" } : Jvm.MethodName)) ∈ TB := tb_mem 1368 (by decide +kernel) (by decide +kernel)
theorem wd_1369 : (Jvm.Cond.code ({ cls := "HeatNetworkModel", name := "isPipe", desc := "(I)Z" } : Jvm.MethodName) prog_7_method_9_code (2 : Nat) (Option.some Jvm.ClassFile.FieldType.boolean)) ∈ TB := tb_mem 1369 (by decide +kernel) (by decide +kernel)
theorem wd_1374 : (Jvm.Cond.methodLink "HeatNetworkModel" (268 : Nat) ({ cls := "HeatNetworkModel", name := "stationBy", desc := "(IIII)I" } : Jvm.MethodName)) ∈ TB := tb_mem 1374 (by decide +kernel) (by decide +kernel)
theorem wd_1376 : (Jvm.Cond.instanceMethod ({ cls := "HeatNetworkModel", name := "stationBy", desc := "(IIII)I" } : Jvm.MethodName)) ∈ TB := tb_mem 1376 (by decide +kernel) (by decide +kernel)
theorem wd_1377 : (Jvm.Cond.code ({ cls := "HeatNetworkModel", name := "stationBy", desc := "(IIII)I" } : Jvm.MethodName) prog_7_method_41_code (7 : Nat) (Option.some Jvm.ClassFile.FieldType.int)) ∈ TB := tb_mem 1377 (by decide +kernel) (by decide +kernel)
theorem wd_1378 : (Jvm.Cond.methodLink "HeatNetworkModel" (180 : Nat) ({ cls := "HeatNetworkModel", name := "hasStation", desc := "(I)Z" } : Jvm.MethodName)) ∈ TB := tb_mem 1378 (by decide +kernel) (by decide +kernel)
theorem wd_1380 : (Jvm.Cond.instanceMethod ({ cls := "HeatNetworkModel", name := "hasStation", desc := "(I)Z" } : Jvm.MethodName)) ∈ TB := tb_mem 1380 (by decide +kernel) (by decide +kernel)
theorem wd_1381 : (Jvm.Cond.code ({ cls := "HeatNetworkModel", name := "hasStation", desc := "(I)Z" } : Jvm.MethodName) prog_7_method_15_code (2 : Nat) (Option.some Jvm.ClassFile.FieldType.boolean)) ∈ TB := tb_mem 1381 (by decide +kernel) (by decide +kernel)
theorem wd_1382 : (Jvm.Cond.methodLink "HeatNetworkModel" (271 : Nat) ({ cls := "HeatNetworkModel", name := "stations", desc := "()I" } : Jvm.MethodName)) ∈ TB := tb_mem 1382 (by decide +kernel) (by decide +kernel)
theorem wd_1384 : (Jvm.Cond.instanceMethod ({ cls := "HeatNetworkModel", name := "stations", desc := "()I" } : Jvm.MethodName)) ∈ TB := tb_mem 1384 (by decide +kernel) (by decide +kernel)
theorem wd_1385 : (Jvm.Cond.code ({ cls := "HeatNetworkModel", name := "stations", desc := "()I" } : Jvm.MethodName) prog_7_method_52_code (3 : Nat) (Option.some Jvm.ClassFile.FieldType.int)) ∈ TB := tb_mem 1385 (by decide +kernel) (by decide +kernel)
theorem wd_1390 : (Jvm.Cond.methodLink "HeatNetworkModel" (274 : Nat) ({ cls := "HeatNetworkModel", name := "goneBy", desc := "(I)I" } : Jvm.MethodName)) ∈ TB := tb_mem 1390 (by decide +kernel) (by decide +kernel)
theorem wd_1392 : (Jvm.Cond.instanceMethod ({ cls := "HeatNetworkModel", name := "goneBy", desc := "(I)I" } : Jvm.MethodName)) ∈ TB := tb_mem 1392 (by decide +kernel) (by decide +kernel)
theorem wd_1393 : (Jvm.Cond.code ({ cls := "HeatNetworkModel", name := "goneBy", desc := "(I)I" } : Jvm.MethodName) prog_7_method_42_code (2 : Nat) (Option.some Jvm.ClassFile.FieldType.int)) ∈ TB := tb_mem 1393 (by decide +kernel) (by decide +kernel)
theorem wd_1406 : (Jvm.Cond.methodLink "HeatNetworkModel" (277 : Nat) ({ cls := "HeatNetworkModel", name := "hoursBy", desc := "(I)I" } : Jvm.MethodName)) ∈ TB := tb_mem 1406 (by decide +kernel) (by decide +kernel)
theorem wd_1408 : (Jvm.Cond.instanceMethod ({ cls := "HeatNetworkModel", name := "hoursBy", desc := "(I)I" } : Jvm.MethodName)) ∈ TB := tb_mem 1408 (by decide +kernel) (by decide +kernel)
theorem wd_1409 : (Jvm.Cond.code ({ cls := "HeatNetworkModel", name := "hoursBy", desc := "(I)I" } : Jvm.MethodName) prog_7_method_44_code (4 : Nat) (Option.some Jvm.ClassFile.FieldType.int)) ∈ TB := tb_mem 1409 (by decide +kernel) (by decide +kernel)
theorem wd_1410 : (Jvm.Cond.methodLink "HeatNetworkModel" (236 : Nat) ({ cls := "HeatNetworkModel", name := "looks", desc := "()V" } : Jvm.MethodName)) ∈ TB := tb_mem 1410 (by decide +kernel) (by decide +kernel)
theorem wd_1412 : (Jvm.Cond.instanceMethod ({ cls := "HeatNetworkModel", name := "looks", desc := "()V" } : Jvm.MethodName)) ∈ TB := tb_mem 1412 (by decide +kernel) (by decide +kernel)
theorem wd_1413 : (Jvm.Cond.code ({ cls := "HeatNetworkModel", name := "looks", desc := "()V" } : Jvm.MethodName) prog_7_method_29_code (3 : Nat) (Option.none : Option Jvm.ClassFile.FieldType)) ∈ TB := tb_mem 1413 (by decide +kernel) (by decide +kernel)
theorem wd_1414 : (Jvm.Cond.methodLink "HeatNetworkModel" (197 : Nat) ({ cls := "HeatNetworkModel", name := "findsLoop", desc := "()V" } : Jvm.MethodName)) ∈ TB := tb_mem 1414 (by decide +kernel) (by decide +kernel)
theorem wd_1416 : (Jvm.Cond.instanceMethod ({ cls := "HeatNetworkModel", name := "findsLoop", desc := "()V" } : Jvm.MethodName)) ∈ TB := tb_mem 1416 (by decide +kernel) (by decide +kernel)
theorem wd_1417 : (Jvm.Cond.code ({ cls := "HeatNetworkModel", name := "findsLoop", desc := "()V" } : Jvm.MethodName) prog_7_method_13_code (9 : Nat) (Option.none : Option Jvm.ClassFile.FieldType)) ∈ TB := tb_mem 1417 (by decide +kernel) (by decide +kernel)
theorem wd_1418 : (Jvm.Cond.methodLink "HeatNetworkModel" (203 : Nat) ({ cls := "HeatNetworkModel", name := "drawn", desc := "(II)I" } : Jvm.MethodName)) ∈ TB := tb_mem 1418 (by decide +kernel) (by decide +kernel)
theorem wd_1420 : (Jvm.Cond.instanceMethod ({ cls := "HeatNetworkModel", name := "drawn", desc := "(II)I" } : Jvm.MethodName)) ∈ TB := tb_mem 1420 (by decide +kernel) (by decide +kernel)
theorem wd_1421 : (Jvm.Cond.code ({ cls := "HeatNetworkModel", name := "drawn", desc := "(II)I" } : Jvm.MethodName) prog_7_method_17_code (5 : Nat) (Option.some Jvm.ClassFile.FieldType.int)) ∈ TB := tb_mem 1421 (by decide +kernel) (by decide +kernel)
theorem wd_1422 : (Jvm.Cond.methodLink "HeatNetworkModel" (129 : Nat) ({ cls := "HeatNetworkModel", name := "wants", desc := "(I)I" } : Jvm.MethodName)) ∈ TB := tb_mem 1422 (by decide +kernel) (by decide +kernel)
theorem wd_1424 : (Jvm.Cond.instanceMethod ({ cls := "HeatNetworkModel", name := "wants", desc := "(I)I" } : Jvm.MethodName)) ∈ TB := tb_mem 1424 (by decide +kernel) (by decide +kernel)
theorem wd_1425 : (Jvm.Cond.code ({ cls := "HeatNetworkModel", name := "wants", desc := "(I)I" } : Jvm.MethodName) prog_7_method_16_code (2 : Nat) (Option.some Jvm.ClassFile.FieldType.int)) ∈ TB := tb_mem 1425 (by decide +kernel) (by decide +kernel)
theorem wd_1426 : (Jvm.Cond.methodLink "HeatNetworkModel" (124 : Nat) ({ cls := "java/lang/Math", name := "max", desc := "(II)I" } : Jvm.MethodName)) ∈ TB := tb_mem 1426 (by decide +kernel) (by decide +kernel)
theorem wd_1427 : (Jvm.Cond.methodLink "HeatNetworkModel" (132 : Nat) ({ cls := "java/lang/Math", name := "min", desc := "(II)I" } : Jvm.MethodName)) ∈ TB := tb_mem 1427 (by decide +kernel) (by decide +kernel)
theorem wd_1428 : (Jvm.Cond.methodLink "HeatNetworkModel" (206 : Nat) ({ cls := "HeatNetworkModel", name := "flows", desc := "()V" } : Jvm.MethodName)) ∈ TB := tb_mem 1428 (by decide +kernel) (by decide +kernel)
theorem wd_1430 : (Jvm.Cond.instanceMethod ({ cls := "HeatNetworkModel", name := "flows", desc := "()V" } : Jvm.MethodName)) ∈ TB := tb_mem 1430 (by decide +kernel) (by decide +kernel)
theorem wd_1431 : (Jvm.Cond.code ({ cls := "HeatNetworkModel", name := "flows", desc := "()V" } : Jvm.MethodName) prog_7_method_22_code (8 : Nat) (Option.none : Option Jvm.ClassFile.FieldType)) ∈ TB := tb_mem 1431 (by decide +kernel) (by decide +kernel)
theorem wd_1432 : (Jvm.Cond.methodLink "HeatNetworkModel" (139 : Nat) ({ cls := "HeatNetworkModel", name := "out", desc := "(I)J" } : Jvm.MethodName)) ∈ TB := tb_mem 1432 (by decide +kernel) (by decide +kernel)
theorem wd_1434 : (Jvm.Cond.instanceMethod ({ cls := "HeatNetworkModel", name := "out", desc := "(I)J" } : Jvm.MethodName)) ∈ TB := tb_mem 1434 (by decide +kernel) (by decide +kernel)
theorem wd_1435 : (Jvm.Cond.code ({ cls := "HeatNetworkModel", name := "out", desc := "(I)J" } : Jvm.MethodName) prog_7_method_18_code (6 : Nat) (Option.some Jvm.ClassFile.FieldType.long)) ∈ TB := tb_mem 1435 (by decide +kernel) (by decide +kernel)
theorem wd_1436 : (Jvm.Cond.methodLink "HeatNetworkModel" (135 : Nat) ({ cls := "HeatNetworkModel", name := "isLoopPipe", desc := "(I)Z" } : Jvm.MethodName)) ∈ TB := tb_mem 1436 (by decide +kernel) (by decide +kernel)
theorem wd_1438 : (Jvm.Cond.instanceMethod ({ cls := "HeatNetworkModel", name := "isLoopPipe", desc := "(I)Z" } : Jvm.MethodName)) ∈ TB := tb_mem 1438 (by decide +kernel) (by decide +kernel)
theorem wd_1439 : (Jvm.Cond.code ({ cls := "HeatNetworkModel", name := "isLoopPipe", desc := "(I)Z" } : Jvm.MethodName) prog_7_method_14_code (3 : Nat) (Option.some Jvm.ClassFile.FieldType.boolean)) ∈ TB := tb_mem 1439 (by decide +kernel) (by decide +kernel)
theorem wd_1440 : (Jvm.Cond.methodLink "HeatNetworkModel" (155 : Nat) ({ cls := "HeatNetworkModel", name := "carries", desc := "(IIJ)V" } : Jvm.MethodName)) ∈ TB := tb_mem 1440 (by decide +kernel) (by decide +kernel)
theorem wd_1442 : (Jvm.Cond.instanceMethod ({ cls := "HeatNetworkModel", name := "carries", desc := "(IIJ)V" } : Jvm.MethodName)) ∈ TB := tb_mem 1442 (by decide +kernel) (by decide +kernel)
theorem wd_1443 : (Jvm.Cond.code ({ cls := "HeatNetworkModel", name := "carries", desc := "(IIJ)V" } : Jvm.MethodName) prog_7_method_21_code (5 : Nat) (Option.none : Option Jvm.ClassFile.FieldType)) ∈ TB := tb_mem 1443 (by decide +kernel) (by decide +kernel)
theorem wd_1444 : (Jvm.Cond.constantLong "HeatNetworkModel" (159 : Nat) (10000 : Int64)) ∈ TB := tb_mem 1444 (by decide +kernel) (by decide +kernel)
theorem wd_1445 : (Jvm.Cond.constantLong "HeatNetworkModel" (161 : Nat) (2 : Int64)) ∈ TB := tb_mem 1445 (by decide +kernel) (by decide +kernel)
theorem wd_1446 : (Jvm.Cond.methodLink "HeatNetworkModel" (163 : Nat) ({ cls := "HeatNetworkModel", name := "around", desc := "(J)J" } : Jvm.MethodName)) ∈ TB := tb_mem 1446 (by decide +kernel) (by decide +kernel)
theorem wd_1448 : (Jvm.Cond.instanceMethod ({ cls := "HeatNetworkModel", name := "around", desc := "(J)J" } : Jvm.MethodName)) ∈ TB := tb_mem 1448 (by decide +kernel) (by decide +kernel)
theorem wd_1449 : (Jvm.Cond.code ({ cls := "HeatNetworkModel", name := "around", desc := "(J)J" } : Jvm.MethodName) prog_7_method_19_code (8 : Nat) (Option.some Jvm.ClassFile.FieldType.long)) ∈ TB := tb_mem 1449 (by decide +kernel) (by decide +kernel)
theorem wd_1450 : (Jvm.Cond.methodLink "HeatNetworkModel" (143 : Nat) ({ cls := "HeatNetworkModel", name := "drop", desc := "(IJ)J" } : Jvm.MethodName)) ∈ TB := tb_mem 1450 (by decide +kernel) (by decide +kernel)
theorem wd_1452 : (Jvm.Cond.instanceMethod ({ cls := "HeatNetworkModel", name := "drop", desc := "(IJ)J" } : Jvm.MethodName)) ∈ TB := tb_mem 1452 (by decide +kernel) (by decide +kernel)
theorem wd_1453 : (Jvm.Cond.code ({ cls := "HeatNetworkModel", name := "drop", desc := "(IJ)J" } : Jvm.MethodName) prog_7_method_20_code (4 : Nat) (Option.some Jvm.ClassFile.FieldType.long)) ∈ TB := tb_mem 1453 (by decide +kernel) (by decide +kernel)
theorem wd_1454 : (Jvm.Cond.methodLink "HeatNetworkModel" (147 : Nat) ({ cls := "java/lang/Math", name := "abs", desc := "(J)J" } : Jvm.MethodName)) ∈ TB := tb_mem 1454 (by decide +kernel) (by decide +kernel)
theorem wd_1455 : (Jvm.Cond.methodLink "HeatNetworkModel" (209 : Nat) ({ cls := "HeatNetworkModel", name := "temperatures", desc := "()V" } : Jvm.MethodName)) ∈ TB := tb_mem 1455 (by decide +kernel) (by decide +kernel)
theorem wd_1457 : (Jvm.Cond.instanceMethod ({ cls := "HeatNetworkModel", name := "temperatures", desc := "()V" } : Jvm.MethodName)) ∈ TB := tb_mem 1457 (by decide +kernel) (by decide +kernel)
theorem wd_1458 : (Jvm.Cond.code ({ cls := "HeatNetworkModel", name := "temperatures", desc := "()V" } : Jvm.MethodName) prog_7_method_28_code (5 : Nat) (Option.none : Option Jvm.ClassFile.FieldType)) ∈ TB := tb_mem 1458 (by decide +kernel) (by decide +kernel)
theorem wd_1459 : (Jvm.Cond.methodLink "HeatNetworkModel" (189 : Nat) ({ cls := "HeatNetworkModel", name := "isReady", desc := "(IZ)Z" } : Jvm.MethodName)) ∈ TB := tb_mem 1459 (by decide +kernel) (by decide +kernel)
theorem wd_1461 : (Jvm.Cond.instanceMethod ({ cls := "HeatNetworkModel", name := "isReady", desc := "(IZ)Z" } : Jvm.MethodName)) ∈ TB := tb_mem 1461 (by decide +kernel) (by decide +kernel)
theorem wd_1462 : (Jvm.Cond.code ({ cls := "HeatNetworkModel", name := "isReady", desc := "(IZ)Z" } : Jvm.MethodName) prog_7_method_26_code (4 : Nat) (Option.some Jvm.ClassFile.FieldType.boolean)) ∈ TB := tb_mem 1462 (by decide +kernel) (by decide +kernel)
theorem wd_1463 : (Jvm.Cond.methodLink "HeatNetworkModel" (174 : Nat) ({ cls := "HeatNetworkModel", name := "from", desc := "(I)I" } : Jvm.MethodName)) ∈ TB := tb_mem 1463 (by decide +kernel) (by decide +kernel)
theorem wd_1465 : (Jvm.Cond.instanceMethod ({ cls := "HeatNetworkModel", name := "from", desc := "(I)I" } : Jvm.MethodName)) ∈ TB := tb_mem 1465 (by decide +kernel) (by decide +kernel)
theorem wd_1466 : (Jvm.Cond.code ({ cls := "HeatNetworkModel", name := "from", desc := "(I)I" } : Jvm.MethodName) prog_7_method_24_code (2 : Nat) (Option.some Jvm.ClassFile.FieldType.int)) ∈ TB := tb_mem 1466 (by decide +kernel) (by decide +kernel)
theorem wd_1467 : (Jvm.Cond.methodLink "HeatNetworkModel" (177 : Nat) ({ cls := "HeatNetworkModel", name := "to", desc := "(I)I" } : Jvm.MethodName)) ∈ TB := tb_mem 1467 (by decide +kernel) (by decide +kernel)
theorem wd_1469 : (Jvm.Cond.instanceMethod ({ cls := "HeatNetworkModel", name := "to", desc := "(I)I" } : Jvm.MethodName)) ∈ TB := tb_mem 1469 (by decide +kernel) (by decide +kernel)
theorem wd_1470 : (Jvm.Cond.code ({ cls := "HeatNetworkModel", name := "to", desc := "(I)I" } : Jvm.MethodName) prog_7_method_25_code (2 : Nat) (Option.some Jvm.ClassFile.FieldType.int)) ∈ TB := tb_mem 1470 (by decide +kernel) (by decide +kernel)
theorem wd_1471 : (Jvm.Cond.methodLink "HeatNetworkModel" (193 : Nat) ({ cls := "HeatNetworkModel", name := "mixes", desc := "(IZ)V" } : Jvm.MethodName)) ∈ TB := tb_mem 1471 (by decide +kernel) (by decide +kernel)
theorem wd_1473 : (Jvm.Cond.instanceMethod ({ cls := "HeatNetworkModel", name := "mixes", desc := "(IZ)V" } : Jvm.MethodName)) ∈ TB := tb_mem 1473 (by decide +kernel) (by decide +kernel)
theorem wd_1474 : (Jvm.Cond.code ({ cls := "HeatNetworkModel", name := "mixes", desc := "(IZ)V" } : Jvm.MethodName) prog_7_method_27_code (10 : Nat) (Option.none : Option Jvm.ClassFile.FieldType)) ∈ TB := tb_mem 1474 (by decide +kernel) (by decide +kernel)
theorem wd_1475 : (Jvm.Cond.methodLink "HeatNetworkModel" (166 : Nat) ({ cls := "java/lang/Math", name := "abs", desc := "(I)I" } : Jvm.MethodName)) ∈ TB := tb_mem 1475 (by decide +kernel) (by decide +kernel)
theorem wd_1476 : (Jvm.Cond.methodLink "HeatNetworkModel" (183 : Nat) ({ cls := "HeatNetworkModel", name := "through", desc := "(II)I" } : Jvm.MethodName)) ∈ TB := tb_mem 1476 (by decide +kernel) (by decide +kernel)
theorem wd_1478 : (Jvm.Cond.instanceMethod ({ cls := "HeatNetworkModel", name := "through", desc := "(II)I" } : Jvm.MethodName)) ∈ TB := tb_mem 1478 (by decide +kernel) (by decide +kernel)
theorem wd_1479 : (Jvm.Cond.code ({ cls := "HeatNetworkModel", name := "through", desc := "(II)I" } : Jvm.MethodName) prog_7_method_23_code (5 : Nat) (Option.some Jvm.ClassFile.FieldType.int)) ∈ TB := tb_mem 1479 (by decide +kernel) (by decide +kernel)
theorem wd_1480 : (Jvm.Cond.constantLong "HeatNetworkModel" (168 : Nat) (100 : Int64)) ∈ TB := tb_mem 1480 (by decide +kernel) (by decide +kernel)
theorem wd_1481 : (Jvm.Cond.methodLink "HeatNetworkModel" (170 : Nat) ({ cls := "java/lang/Math", name := "floorDiv", desc := "(JJ)J" } : Jvm.MethodName)) ∈ TB := tb_mem 1481 (by decide +kernel) (by decide +kernel)
theorem wd_1482 : (Jvm.Cond.methodLink "HeatNetworkModel" (186 : Nat) ({ cls := "java/lang/Math", name := "floorMod", desc := "(JJ)J" } : Jvm.MethodName)) ∈ TB := tb_mem 1482 (by decide +kernel) (by decide +kernel)
theorem wd_1483 : (Jvm.Cond.static ({ cls := "java/lang/Math", name := "floorMod", desc := "(JJ)J" } : Jvm.MethodName)) ∈ TB := tb_mem 1483 (by decide +kernel) (by decide +kernel)
theorem wd_1484 : (Jvm.Cond.code ({ cls := "java/lang/Math", name := "floorMod", desc := "(JJ)J" } : Jvm.MethodName) prog_17_method_52_code (6 : Nat) (Option.some Jvm.ClassFile.FieldType.long)) ∈ TB := tb_mem 1484 (by decide +kernel) (by decide +kernel)
theorem wd_1485 : (Jvm.Cond.methodLink "HeatNetworkModel" (239 : Nat) ({ cls := "HeatNetworkModel", name := "needed", desc := "()J" } : Jvm.MethodName)) ∈ TB := tb_mem 1485 (by decide +kernel) (by decide +kernel)
theorem wd_1487 : (Jvm.Cond.instanceMethod ({ cls := "HeatNetworkModel", name := "needed", desc := "()J" } : Jvm.MethodName)) ∈ TB := tb_mem 1487 (by decide +kernel) (by decide +kernel)
theorem wd_1488 : (Jvm.Cond.code ({ cls := "HeatNetworkModel", name := "needed", desc := "()J" } : Jvm.MethodName) prog_7_method_38_code (7 : Nat) (Option.some Jvm.ClassFile.FieldType.long)) ∈ TB := tb_mem 1488 (by decide +kernel) (by decide +kernel)
theorem wd_1489 : (Jvm.Cond.methodLink "HeatNetworkModel" (225 : Nat) ({ cls := "HeatNetworkModel", name := "headOf", desc := "(I)J" } : Jvm.MethodName)) ∈ TB := tb_mem 1489 (by decide +kernel) (by decide +kernel)
theorem wd_1491 : (Jvm.Cond.instanceMethod ({ cls := "HeatNetworkModel", name := "headOf", desc := "(I)J" } : Jvm.MethodName)) ∈ TB := tb_mem 1491 (by decide +kernel) (by decide +kernel)
theorem wd_1492 : (Jvm.Cond.code ({ cls := "HeatNetworkModel", name := "headOf", desc := "(I)J" } : Jvm.MethodName) prog_7_method_37_code (9 : Nat) (Option.some Jvm.ClassFile.FieldType.long)) ∈ TB := tb_mem 1492 (by decide +kernel) (by decide +kernel)
theorem wd_1493 : (Jvm.Cond.methodLink "HeatNetworkModel" (243 : Nat) ({ cls := "HeatNetworkModel", name := "made", desc := "()J" } : Jvm.MethodName)) ∈ TB := tb_mem 1493 (by decide +kernel) (by decide +kernel)
theorem wd_1495 : (Jvm.Cond.instanceMethod ({ cls := "HeatNetworkModel", name := "made", desc := "()J" } : Jvm.MethodName)) ∈ TB := tb_mem 1495 (by decide +kernel) (by decide +kernel)
theorem wd_1496 : (Jvm.Cond.code ({ cls := "HeatNetworkModel", name := "made", desc := "()J" } : Jvm.MethodName) prog_7_method_30_code (1 : Nat) (Option.some Jvm.ClassFile.FieldType.long)) ∈ TB := tb_mem 1496 (by decide +kernel) (by decide +kernel)
theorem wd_1497 : (Jvm.Cond.methodLink "HeatNetworkModel" (246 : Nat) ({ cls := "HeatNetworkModel", name := "allHeat", desc := "()J" } : Jvm.MethodName)) ∈ TB := tb_mem 1497 (by decide +kernel) (by decide +kernel)
theorem wd_1499 : (Jvm.Cond.instanceMethod ({ cls := "HeatNetworkModel", name := "allHeat", desc := "()J" } : Jvm.MethodName)) ∈ TB := tb_mem 1499 (by decide +kernel) (by decide +kernel)
theorem wd_1500 : (Jvm.Cond.code ({ cls := "HeatNetworkModel", name := "allHeat", desc := "()J" } : Jvm.MethodName) prog_7_method_32_code (4 : Nat) (Option.some Jvm.ClassFile.FieldType.long)) ∈ TB := tb_mem 1500 (by decide +kernel) (by decide +kernel)
theorem wd_1501 : (Jvm.Cond.methodLink "HeatNetworkModel" (212 : Nat) ({ cls := "HeatNetworkModel", name := "heat", desc := "(I)J" } : Jvm.MethodName)) ∈ TB := tb_mem 1501 (by decide +kernel) (by decide +kernel)
theorem wd_1503 : (Jvm.Cond.instanceMethod ({ cls := "HeatNetworkModel", name := "heat", desc := "(I)J" } : Jvm.MethodName)) ∈ TB := tb_mem 1503 (by decide +kernel) (by decide +kernel)
theorem wd_1504 : (Jvm.Cond.code ({ cls := "HeatNetworkModel", name := "heat", desc := "(I)J" } : Jvm.MethodName) prog_7_method_31_code (2 : Nat) (Option.some Jvm.ClassFile.FieldType.long)) ∈ TB := tb_mem 1504 (by decide +kernel) (by decide +kernel)
theorem wd_1505 : (Jvm.Cond.methodLink "HeatNetworkModel" (219 : Nat) ({ cls := "HeatNetworkModel", name := "counts", desc := "(I)J" } : Jvm.MethodName)) ∈ TB := tb_mem 1505 (by decide +kernel) (by decide +kernel)
theorem wd_1507 : (Jvm.Cond.instanceMethod ({ cls := "HeatNetworkModel", name := "counts", desc := "(I)J" } : Jvm.MethodName)) ∈ TB := tb_mem 1507 (by decide +kernel) (by decide +kernel)
theorem wd_1508 : (Jvm.Cond.code ({ cls := "HeatNetworkModel", name := "counts", desc := "(I)J" } : Jvm.MethodName) prog_7_method_35_code (3 : Nat) (Option.some Jvm.ClassFile.FieldType.long)) ∈ TB := tb_mem 1508 (by decide +kernel) (by decide +kernel)
theorem wd_1509 : (Jvm.Cond.constantLong "HeatNetworkModel" (217 : Nat) (1000 : Int64)) ∈ TB := tb_mem 1509 (by decide +kernel) (by decide +kernel)
theorem wd_1510 : (Jvm.Cond.methodLink "HeatNetworkModel" (249 : Nat) ({ cls := "HeatNetworkModel", name := "pays", desc := "(I)J" } : Jvm.MethodName)) ∈ TB := tb_mem 1510 (by decide +kernel) (by decide +kernel)
theorem wd_1512 : (Jvm.Cond.instanceMethod ({ cls := "HeatNetworkModel", name := "pays", desc := "(I)J" } : Jvm.MethodName)) ∈ TB := tb_mem 1512 (by decide +kernel) (by decide +kernel)
theorem wd_1513 : (Jvm.Cond.code ({ cls := "HeatNetworkModel", name := "pays", desc := "(I)J" } : Jvm.MethodName) prog_7_method_36_code (2 : Nat) (Option.some Jvm.ClassFile.FieldType.long)) ∈ TB := tb_mem 1513 (by decide +kernel) (by decide +kernel)
theorem wd_1514 : (Jvm.Cond.methodLink "HeatNetworkModel" (222 : Nat) ({ cls := "HeatNetworkModel", name := "tariff", desc := "(I)I" } : Jvm.MethodName)) ∈ TB := tb_mem 1514 (by decide +kernel) (by decide +kernel)
theorem wd_1516 : (Jvm.Cond.instanceMethod ({ cls := "HeatNetworkModel", name := "tariff", desc := "(I)I" } : Jvm.MethodName)) ∈ TB := tb_mem 1516 (by decide +kernel) (by decide +kernel)
theorem wd_1517 : (Jvm.Cond.code ({ cls := "HeatNetworkModel", name := "tariff", desc := "(I)I" } : Jvm.MethodName) prog_7_method_34_code (2 : Nat) (Option.some Jvm.ClassFile.FieldType.int)) ∈ TB := tb_mem 1517 (by decide +kernel) (by decide +kernel)
theorem wd_1518 : (Jvm.Cond.methodLink "HeatNetworkModel" (215 : Nat) ({ cls := "java/lang/Math", name := "floorDiv", desc := "(II)I" } : Jvm.MethodName)) ∈ TB := tb_mem 1518 (by decide +kernel) (by decide +kernel)
theorem wd_1527 : (Jvm.Cond.methodLink "HeatNetworkModel" (301 : Nat) ({ cls := "HeatNetworkModel", name := "definition", desc := "(Z)I" } : Jvm.MethodName)) ∈ TB := tb_mem 1527 (by decide +kernel) (by decide +kernel)
theorem wd_1529 : (Jvm.Cond.instanceMethod ({ cls := "HeatNetworkModel", name := "definition", desc := "(Z)I" } : Jvm.MethodName)) ∈ TB := tb_mem 1529 (by decide +kernel) (by decide +kernel)
theorem wd_1530 : (Jvm.Cond.code ({ cls := "HeatNetworkModel", name := "definition", desc := "(Z)I" } : Jvm.MethodName) prog_7_method_63_code (9 : Nat) (Option.some Jvm.ClassFile.FieldType.int)) ∈ TB := tb_mem 1530 (by decide +kernel) (by decide +kernel)
theorem wd_1531 : (Jvm.Cond.methodLink "HeatNetworkModel" (286 : Nat) ({ cls := "HeatNetworkModel", name := "here", desc := "()I" } : Jvm.MethodName)) ∈ TB := tb_mem 1531 (by decide +kernel) (by decide +kernel)
theorem wd_1533 : (Jvm.Cond.instanceMethod ({ cls := "HeatNetworkModel", name := "here", desc := "()I" } : Jvm.MethodName)) ∈ TB := tb_mem 1533 (by decide +kernel) (by decide +kernel)
theorem wd_1534 : (Jvm.Cond.code ({ cls := "HeatNetworkModel", name := "here", desc := "()I" } : Jvm.MethodName) prog_7_method_59_code (1 : Nat) (Option.some Jvm.ClassFile.FieldType.int)) ∈ TB := tb_mem 1534 (by decide +kernel) (by decide +kernel)
theorem wd_1535 : (Jvm.Cond.methodLink "HeatNetworkModel" (292 : Nat) ({ cls := "HeatNetworkModel", name := "number", desc := "()I" } : Jvm.MethodName)) ∈ TB := tb_mem 1535 (by decide +kernel) (by decide +kernel)
theorem wd_1537 : (Jvm.Cond.instanceMethod ({ cls := "HeatNetworkModel", name := "number", desc := "()I" } : Jvm.MethodName)) ∈ TB := tb_mem 1537 (by decide +kernel) (by decide +kernel)
theorem wd_1538 : (Jvm.Cond.code ({ cls := "HeatNetworkModel", name := "number", desc := "()I" } : Jvm.MethodName) prog_7_method_62_code (3 : Nat) (Option.some Jvm.ClassFile.FieldType.int)) ∈ TB := tb_mem 1538 (by decide +kernel) (by decide +kernel)
theorem wd_1539 : (Jvm.Cond.methodLink "HeatNetworkModel" (289 : Nat) ({ cls := "HeatNetworkModel", name := "digit", desc := "()I" } : Jvm.MethodName)) ∈ TB := tb_mem 1539 (by decide +kernel) (by decide +kernel)
theorem wd_1541 : (Jvm.Cond.instanceMethod ({ cls := "HeatNetworkModel", name := "digit", desc := "()I" } : Jvm.MethodName)) ∈ TB := tb_mem 1541 (by decide +kernel) (by decide +kernel)
theorem wd_1542 : (Jvm.Cond.code ({ cls := "HeatNetworkModel", name := "digit", desc := "()I" } : Jvm.MethodName) prog_7_method_61_code (1 : Nat) (Option.some Jvm.ClassFile.FieldType.int)) ∈ TB := tb_mem 1542 (by decide +kernel) (by decide +kernel)
theorem wd_1543 : (Jvm.Cond.methodLink "HeatNetworkModel" (295 : Nat) ({ cls := "HeatNetworkModel", name := "takes", desc := "(I)Z" } : Jvm.MethodName)) ∈ TB := tb_mem 1543 (by decide +kernel) (by decide +kernel)
theorem wd_1545 : (Jvm.Cond.instanceMethod ({ cls := "HeatNetworkModel", name := "takes", desc := "(I)Z" } : Jvm.MethodName)) ∈ TB := tb_mem 1545 (by decide +kernel) (by decide +kernel)
theorem wd_1546 : (Jvm.Cond.code ({ cls := "HeatNetworkModel", name := "takes", desc := "(I)Z" } : Jvm.MethodName) prog_7_method_60_code (2 : Nat) (Option.some Jvm.ClassFile.FieldType.boolean)) ∈ TB := tb_mem 1546 (by decide +kernel) (by decide +kernel)
theorem wd_1547 : (Jvm.Cond.methodLink "HeatNetworkModel" (298 : Nat) ({ cls := "HeatNetworkModel", name := "settingBy", desc := "(II)I" } : Jvm.MethodName)) ∈ TB := tb_mem 1547 (by decide +kernel) (by decide +kernel)
theorem wd_1549 : (Jvm.Cond.instanceMethod ({ cls := "HeatNetworkModel", name := "settingBy", desc := "(II)I" } : Jvm.MethodName)) ∈ TB := tb_mem 1549 (by decide +kernel) (by decide +kernel)
theorem wd_1550 : (Jvm.Cond.code ({ cls := "HeatNetworkModel", name := "settingBy", desc := "(II)I" } : Jvm.MethodName) prog_7_method_43_code (3 : Nat) (Option.some Jvm.ClassFile.FieldType.int)) ∈ TB := tb_mem 1550 (by decide +kernel) (by decide +kernel)
theorem wd_1551 : (Jvm.Cond.methodLink "HeatNetworkModel" (305 : Nat) ({ cls := "HeatNetworkModel", name := "comesBack", desc := "()V" } : Jvm.MethodName)) ∈ TB := tb_mem 1551 (by decide +kernel) (by decide +kernel)
theorem wd_1553 : (Jvm.Cond.instanceMethod ({ cls := "HeatNetworkModel", name := "comesBack", desc := "()V" } : Jvm.MethodName)) ∈ TB := tb_mem 1553 (by decide +kernel) (by decide +kernel)
theorem wd_1554 : (Jvm.Cond.code ({ cls := "HeatNetworkModel", name := "comesBack", desc := "()V" } : Jvm.MethodName) prog_7_method_48_code (2 : Nat) (Option.none : Option Jvm.ClassFile.FieldType)) ∈ TB := tb_mem 1554 (by decide +kernel) (by decide +kernel)
theorem wd_1591 : (Jvm.Cond.methodLink "HeatNetworkModel" (308 : Nat) ({ cls := "HeatNetworkModel", name := "loses", desc := "(I)J" } : Jvm.MethodName)) ∈ TB := tb_mem 1591 (by decide +kernel) (by decide +kernel)
theorem wd_1593 : (Jvm.Cond.instanceMethod ({ cls := "HeatNetworkModel", name := "loses", desc := "(I)J" } : Jvm.MethodName)) ∈ TB := tb_mem 1593 (by decide +kernel) (by decide +kernel)
theorem wd_1594 : (Jvm.Cond.code ({ cls := "HeatNetworkModel", name := "loses", desc := "(I)J" } : Jvm.MethodName) prog_7_method_33_code (4 : Nat) (Option.some Jvm.ClassFile.FieldType.long)) ∈ TB := tb_mem 1594 (by decide +kernel) (by decide +kernel)
theorem wd_1603 : (Jvm.Cond.methodLink "HeatNetworkModel" (311 : Nat) ({ cls := "HeatNetworkModel", name := "isJoined", desc := "(I)Z" } : Jvm.MethodName)) ∈ TB := tb_mem 1603 (by decide +kernel) (by decide +kernel)
theorem wd_1605 : (Jvm.Cond.instanceMethod ({ cls := "HeatNetworkModel", name := "isJoined", desc := "(I)Z" } : Jvm.MethodName)) ∈ TB := tb_mem 1605 (by decide +kernel) (by decide +kernel)
theorem wd_1606 : (Jvm.Cond.code ({ cls := "HeatNetworkModel", name := "isJoined", desc := "(I)Z" } : Jvm.MethodName) prog_7_method_75_code (2 : Nat) (Option.some Jvm.ClassFile.FieldType.boolean)) ∈ TB := tb_mem 1606 (by decide +kernel) (by decide +kernel)
theorem wd_1639 : (Jvm.Cond.constantLong "HeatNetworkModel" (314 : Nat) (-1 : Int64)) ∈ TB := tb_mem 1639 (by decide +kernel) (by decide +kernel)
theorem wd_1660 : (Jvm.Cond.constantFloat "HeatNetworkModel" (316 : Nat) (1092616192 : UInt32)) ∈ TB := tb_mem 1660 (by decide +kernel) (by decide +kernel)
theorem nbd_119 : (Jvm.Cond.methodLinkNest "HeatNetwork" (9 : Nat) ({ cls := "HeatNetwork$Network", name := "<init>", desc := "()V" } : Jvm.MethodName) "HeatNetwork") ∈ NB := List.mem_filter.mpr ⟨List.mem_of_getElem? (i := 119) (by decide +kernel), rfl⟩
theorem nbd_218 : (Jvm.Cond.methodLinkNest "HeatNetwork" (28 : Nat) ({ cls := "HeatNetwork$Shape", name := "<init>", desc := "()V" } : Jvm.MethodName) "HeatNetwork") ∈ NB := List.mem_filter.mpr ⟨List.mem_of_getElem? (i := 218) (by decide +kernel), rfl⟩
theorem nbd_270 : (Jvm.Cond.methodLinkNest "HeatNetwork" (35 : Nat) ({ cls := "HeatNetwork$State", name := "<init>", desc := "()V" } : Jvm.MethodName) "HeatNetwork") ∈ NB := List.mem_filter.mpr ⟨List.mem_of_getElem? (i := 270) (by decide +kernel), rfl⟩
theorem nbd_328 : (Jvm.Cond.methodLinkNest "HeatNetwork" (45 : Nat) ({ cls := "HeatNetwork$Text", name := "<init>", desc := "()V" } : Jvm.MethodName) "HeatNetwork") ∈ NB := List.mem_filter.mpr ⟨List.mem_of_getElem? (i := 328) (by decide +kernel), rfl⟩
theorem nbd_455 : (Jvm.Cond.methodLinkNest "HeatNetwork$Network" (83 : Nat) ({ cls := "HeatNetwork", name := "isNode", desc := "(I)Z" } : Jvm.MethodName) "HeatNetwork") ∈ NB := List.mem_filter.mpr ⟨List.mem_of_getElem? (i := 455) (by decide +kernel), rfl⟩
theorem nbd_728 : (Jvm.Cond.methodLinkNest "HeatNetwork$Network" (87 : Nat) ({ cls := "HeatNetwork", name := "isWithin", desc := "(III)Z" } : Jvm.MethodName) "HeatNetwork") ∈ NB := List.mem_filter.mpr ⟨List.mem_of_getElem? (i := 728) (by decide +kernel), rfl⟩
theorem nbd_961 : (Jvm.Cond.methodLinkNest "HeatNetwork$Text" (50 : Nat) ({ cls := "HeatNetwork", name := "isWithin", desc := "(III)Z" } : Jvm.MethodName) "HeatNetwork") ∈ NB := List.mem_filter.mpr ⟨List.mem_of_getElem? (i := 961) (by decide +kernel), rfl⟩
theorem kd_0 : kd 0 = .inr 6 := by decide +kernel
theorem kd_1 : kd 1 = .inr 2 := by decide +kernel
theorem kd_2 : kd 2 = .inl (.int, 7) := by decide +kernel
theorem kd_3 : kd 3 = .inl (.int, 10) := by decide +kernel
theorem kd_4 : kd 4 = .inl (.int, 10) := by decide +kernel
theorem kd_5 : kd 5 = .inl (.int, 10) := by decide +kernel
theorem kd_6 : kd 6 = .inl (.int, 10) := by decide +kernel
theorem kd_7 : kd 7 = .inl (.int, 10) := by decide +kernel
theorem kd_8 : kd 8 = .inl (.int, 10) := by decide +kernel
theorem kd_9 : kd 9 = .inl (.int, 10) := by decide +kernel
theorem kd_10 : kd 10 = .inl (.int, 10) := by decide +kernel
theorem kd_11 : kd 11 = .inl (.int, 10) := by decide +kernel
theorem kd_12 : kd 12 = .inl (.long, 10) := by decide +kernel
theorem kd_13 : kd 13 = .inl (.long, 10) := by decide +kernel
theorem kd_14 : kd 14 = .inl (.long, 10) := by decide +kernel
theorem kd_15 : kd 15 = .inr 2 := by decide +kernel
theorem kd_16 : kd 16 = .inl (.int, 7) := by decide +kernel
theorem kd_17 : kd 17 = .inl (.int, 10) := by decide +kernel
theorem kd_18 : kd 18 = .inl (.int, 10) := by decide +kernel
theorem kd_19 : kd 19 = .inl (.int, 10) := by decide +kernel
theorem kd_20 : kd 20 = .inl (.int, 10) := by decide +kernel
theorem kd_21 : kd 21 = .inl (.int, 10) := by decide +kernel
theorem kd_22 : kd 22 = .inl (.int, 10) := by decide +kernel
theorem kd_23 : kd 23 = .inl (.int, 10) := by decide +kernel
theorem kd_24 : kd 24 = .inl (.int, 10) := by decide +kernel
theorem kd_25 : kd 25 = .inl (.int, 10) := by decide +kernel
theorem kd_26 : kd 26 = .inl (.long, 10) := by decide +kernel
theorem kd_27 : kd 27 = .inl (.long, 10) := by decide +kernel
theorem kd_28 : kd 28 = .inl (.long, 10) := by decide +kernel
theorem kd_29 : kd 29 = .inr 2 := by decide +kernel
theorem kd_30 : kd 30 = .inl (.int, 7) := by decide +kernel
theorem kd_31 : kd 31 = .inl (.int, 10) := by decide +kernel
theorem kd_32 : kd 32 = .inl (.int, 10) := by decide +kernel
theorem kd_33 : kd 33 = .inl (.int, 10) := by decide +kernel
theorem kd_34 : kd 34 = .inl (.int, 10) := by decide +kernel
theorem kd_35 : kd 35 = .inl (.int, 10) := by decide +kernel
theorem kd_36 : kd 36 = .inl (.int, 10) := by decide +kernel
theorem kd_37 : kd 37 = .inl (.int, 10) := by decide +kernel
theorem kd_38 : kd 38 = .inl (.int, 10) := by decide +kernel
theorem kd_39 : kd 39 = .inl (.int, 10) := by decide +kernel
theorem kd_40 : kd 40 = .inl (.long, 10) := by decide +kernel
theorem kd_41 : kd 41 = .inl (.long, 10) := by decide +kernel
theorem kd_42 : kd 42 = .inl (.long, 10) := by decide +kernel
theorem kd_43 : kd 43 = .inl (tNet, 9) := by decide +kernel
theorem kd_44 : kd 44 = .inr 3 := by decide +kernel
theorem kd_45 : kd 45 = .inl (.int, 10) := by decide +kernel
theorem kd_46 : kd 46 = .inl (.int, 10) := by decide +kernel
theorem kd_47 : kd 47 = .inl (.int, 10) := by decide +kernel
theorem kd_48 : kd 48 = .inl (.int, 10) := by decide +kernel
theorem kd_49 : kd 49 = .inl (.int, 10) := by decide +kernel
theorem kd_50 : kd 50 = .inl (.int, 10) := by decide +kernel
theorem kd_51 : kd 51 = .inl (.int, 10) := by decide +kernel
theorem kd_52 : kd 52 = .inl (.boolean, 10) := by decide +kernel
theorem kd_53 : kd 53 = .inr 4 := by decide +kernel
theorem kd_54 : kd 54 = .inl (.int, 10) := by decide +kernel
theorem kd_55 : kd 55 = .inl (.int, 10) := by decide +kernel
theorem kd_56 : kd 56 = .inl (.int, 10) := by decide +kernel
theorem kd_57 : kd 57 = .inl (.int, 10) := by decide +kernel
theorem kd_58 : kd 58 = .inl (.int, 10) := by decide +kernel
theorem kd_59 : kd 59 = .inl (.int, 10) := by decide +kernel
theorem kd_60 : kd 60 = .inl (.int, 10) := by decide +kernel
theorem kd_61 : kd 61 = .inl (.long, 10) := by decide +kernel
theorem kd_62 : kd 62 = .inl (.long, 10) := by decide +kernel
theorem kd_63 : kd 63 = .inl (.long, 10) := by decide +kernel
theorem kd_64 : kd 64 = .inl (.long, 10) := by decide +kernel
theorem kd_65 : kd 65 = .inl (.long, 10) := by decide +kernel
theorem kd_66 : kd 66 = .inr 4 := by decide +kernel
theorem kd_67 : kd 67 = .inl (.int, 10) := by decide +kernel
theorem kd_68 : kd 68 = .inl (.int, 10) := by decide +kernel
theorem kd_69 : kd 69 = .inl (.int, 10) := by decide +kernel
theorem kd_70 : kd 70 = .inl (.int, 10) := by decide +kernel
theorem kd_71 : kd 71 = .inl (.int, 10) := by decide +kernel
theorem kd_72 : kd 72 = .inl (.int, 10) := by decide +kernel
theorem kd_73 : kd 73 = .inl (.int, 10) := by decide +kernel
theorem kd_74 : kd 74 = .inl (.long, 10) := by decide +kernel
theorem kd_75 : kd 75 = .inl (.long, 10) := by decide +kernel
theorem kd_76 : kd 76 = .inl (.long, 10) := by decide +kernel
theorem kd_77 : kd 77 = .inl (.long, 10) := by decide +kernel
theorem kd_78 : kd 78 = .inl (.long, 10) := by decide +kernel
theorem kd_79 : kd 79 = .inr 5 := by decide +kernel
theorem kd_80 : kd 80 = .inl (.char, 60) := by decide +kernel
theorem kd_81 : kd 81 = .inl (.char, 20) := by decide +kernel
theorem kd_82 : kd 82 = .inl (.int, 80) := by decide +kernel
theorem kd_83 : kd 83 = .inr 2 := by decide +kernel
theorem kd_84 : kd 84 = .inl (.int, 7) := by decide +kernel
theorem kd_85 : kd 85 = .inl (.int, 10) := by decide +kernel
theorem kd_86 : kd 86 = .inl (.int, 10) := by decide +kernel
theorem kd_87 : kd 87 = .inl (.int, 10) := by decide +kernel
theorem kd_88 : kd 88 = .inl (.int, 10) := by decide +kernel
theorem kd_89 : kd 89 = .inl (.int, 10) := by decide +kernel
theorem kd_90 : kd 90 = .inl (.int, 10) := by decide +kernel
theorem kd_91 : kd 91 = .inl (.int, 10) := by decide +kernel
theorem kd_92 : kd 92 = .inl (.int, 10) := by decide +kernel
theorem kd_93 : kd 93 = .inl (.int, 10) := by decide +kernel
theorem kd_94 : kd 94 = .inl (.long, 10) := by decide +kernel
theorem kd_95 : kd 95 = .inl (.long, 10) := by decide +kernel
theorem kd_96 : kd 96 = .inl (.long, 10) := by decide +kernel
theorem kd_97 : kd 97 = .inr 2 := by decide +kernel
theorem kd_98 : kd 98 = .inl (.int, 7) := by decide +kernel
theorem kd_99 : kd 99 = .inl (.int, 10) := by decide +kernel
theorem kd_100 : kd 100 = .inl (.int, 10) := by decide +kernel
theorem kd_101 : kd 101 = .inl (.int, 10) := by decide +kernel
theorem kd_102 : kd 102 = .inl (.int, 10) := by decide +kernel
theorem kd_103 : kd 103 = .inl (.int, 10) := by decide +kernel
theorem kd_104 : kd 104 = .inl (.int, 10) := by decide +kernel
theorem kd_105 : kd 105 = .inl (.int, 10) := by decide +kernel
theorem kd_106 : kd 106 = .inl (.int, 10) := by decide +kernel
theorem kd_107 : kd 107 = .inl (.int, 10) := by decide +kernel
theorem kd_108 : kd 108 = .inl (.long, 10) := by decide +kernel
theorem kd_109 : kd 109 = .inl (.long, 10) := by decide +kernel
theorem kd_110 : kd 110 = .inl (.long, 10) := by decide +kernel
theorem kd_111 : kd 111 = .inr 2 := by decide +kernel
theorem kd_112 : kd 112 = .inl (.int, 7) := by decide +kernel
theorem kd_113 : kd 113 = .inl (.int, 10) := by decide +kernel
theorem kd_114 : kd 114 = .inl (.int, 10) := by decide +kernel
theorem kd_115 : kd 115 = .inl (.int, 10) := by decide +kernel
theorem kd_116 : kd 116 = .inl (.int, 10) := by decide +kernel
theorem kd_117 : kd 117 = .inl (.int, 10) := by decide +kernel
theorem kd_118 : kd 118 = .inl (.int, 10) := by decide +kernel
theorem kd_119 : kd 119 = .inl (.int, 10) := by decide +kernel
theorem kd_120 : kd 120 = .inl (.int, 10) := by decide +kernel
theorem kd_121 : kd 121 = .inl (.int, 10) := by decide +kernel
theorem kd_122 : kd 122 = .inl (.long, 10) := by decide +kernel
theorem kd_123 : kd 123 = .inl (.long, 10) := by decide +kernel
theorem kd_124 : kd 124 = .inl (.long, 10) := by decide +kernel
theorem kd_125 : kd 125 = .inr 2 := by decide +kernel
theorem kd_126 : kd 126 = .inl (.int, 7) := by decide +kernel
theorem kd_127 : kd 127 = .inl (.int, 10) := by decide +kernel
theorem kd_128 : kd 128 = .inl (.int, 10) := by decide +kernel
theorem kd_129 : kd 129 = .inl (.int, 10) := by decide +kernel
theorem kd_130 : kd 130 = .inl (.int, 10) := by decide +kernel
theorem kd_131 : kd 131 = .inl (.int, 10) := by decide +kernel
theorem kd_132 : kd 132 = .inl (.int, 10) := by decide +kernel
theorem kd_133 : kd 133 = .inl (.int, 10) := by decide +kernel
theorem kd_134 : kd 134 = .inl (.int, 10) := by decide +kernel
theorem kd_135 : kd 135 = .inl (.int, 10) := by decide +kernel
theorem kd_136 : kd 136 = .inl (.long, 10) := by decide +kernel
theorem kd_137 : kd 137 = .inl (.long, 10) := by decide +kernel
theorem kd_138 : kd 138 = .inl (.long, 10) := by decide +kernel
theorem kd_139 : kd 139 = .inr 2 := by decide +kernel
theorem kd_140 : kd 140 = .inl (.int, 7) := by decide +kernel
theorem kd_141 : kd 141 = .inl (.int, 10) := by decide +kernel
theorem kd_142 : kd 142 = .inl (.int, 10) := by decide +kernel
theorem kd_143 : kd 143 = .inl (.int, 10) := by decide +kernel
theorem kd_144 : kd 144 = .inl (.int, 10) := by decide +kernel
theorem kd_145 : kd 145 = .inl (.int, 10) := by decide +kernel
theorem kd_146 : kd 146 = .inl (.int, 10) := by decide +kernel
theorem kd_147 : kd 147 = .inl (.int, 10) := by decide +kernel
theorem kd_148 : kd 148 = .inl (.int, 10) := by decide +kernel
theorem kd_149 : kd 149 = .inl (.int, 10) := by decide +kernel
theorem kd_150 : kd 150 = .inl (.long, 10) := by decide +kernel
theorem kd_151 : kd 151 = .inl (.long, 10) := by decide +kernel
theorem kd_152 : kd 152 = .inl (.long, 10) := by decide +kernel
theorem kd_153 : kd 153 = .inr 2 := by decide +kernel
theorem kd_154 : kd 154 = .inl (.int, 7) := by decide +kernel
theorem kd_155 : kd 155 = .inl (.int, 10) := by decide +kernel
theorem kd_156 : kd 156 = .inl (.int, 10) := by decide +kernel
theorem kd_157 : kd 157 = .inl (.int, 10) := by decide +kernel
theorem kd_158 : kd 158 = .inl (.int, 10) := by decide +kernel
theorem kd_159 : kd 159 = .inl (.int, 10) := by decide +kernel
theorem kd_160 : kd 160 = .inl (.int, 10) := by decide +kernel
theorem kd_161 : kd 161 = .inl (.int, 10) := by decide +kernel
theorem kd_162 : kd 162 = .inl (.int, 10) := by decide +kernel
theorem kd_163 : kd 163 = .inl (.int, 10) := by decide +kernel
theorem kd_164 : kd 164 = .inl (.long, 10) := by decide +kernel
theorem kd_165 : kd 165 = .inl (.long, 10) := by decide +kernel
theorem kd_166 : kd 166 = .inl (.long, 10) := by decide +kernel
theorem kd_167 : kd 167 = .inr 2 := by decide +kernel
theorem kd_168 : kd 168 = .inl (.int, 7) := by decide +kernel
theorem kd_169 : kd 169 = .inl (.int, 10) := by decide +kernel
theorem kd_170 : kd 170 = .inl (.int, 10) := by decide +kernel
theorem kd_171 : kd 171 = .inl (.int, 10) := by decide +kernel
theorem kd_172 : kd 172 = .inl (.int, 10) := by decide +kernel
theorem kd_173 : kd 173 = .inl (.int, 10) := by decide +kernel
theorem kd_174 : kd 174 = .inl (.int, 10) := by decide +kernel
theorem kd_175 : kd 175 = .inl (.int, 10) := by decide +kernel
theorem kd_176 : kd 176 = .inl (.int, 10) := by decide +kernel
theorem kd_177 : kd 177 = .inl (.int, 10) := by decide +kernel
theorem kd_178 : kd 178 = .inl (.long, 10) := by decide +kernel
theorem kd_179 : kd 179 = .inl (.long, 10) := by decide +kernel
theorem kd_180 : kd 180 = .inl (.long, 10) := by decide +kernel
theorem kd_181 : kd 181 = .inr 2 := by decide +kernel
theorem kd_182 : kd 182 = .inl (.int, 7) := by decide +kernel
theorem kd_183 : kd 183 = .inl (.int, 10) := by decide +kernel
theorem kd_184 : kd 184 = .inl (.int, 10) := by decide +kernel
theorem kd_185 : kd 185 = .inl (.int, 10) := by decide +kernel
theorem kd_186 : kd 186 = .inl (.int, 10) := by decide +kernel
theorem kd_187 : kd 187 = .inl (.int, 10) := by decide +kernel
theorem kd_188 : kd 188 = .inl (.int, 10) := by decide +kernel
theorem kd_189 : kd 189 = .inl (.int, 10) := by decide +kernel
theorem kd_190 : kd 190 = .inl (.int, 10) := by decide +kernel
theorem kd_191 : kd 191 = .inl (.int, 10) := by decide +kernel
theorem kd_192 : kd 192 = .inl (.long, 10) := by decide +kernel
theorem kd_193 : kd 193 = .inl (.long, 10) := by decide +kernel
theorem kd_194 : kd 194 = .inl (.long, 10) := by decide +kernel
theorem kd_195 : kd 195 = .inr 2 := by decide +kernel
theorem kd_196 : kd 196 = .inl (.int, 7) := by decide +kernel
theorem kd_197 : kd 197 = .inl (.int, 10) := by decide +kernel
theorem kd_198 : kd 198 = .inl (.int, 10) := by decide +kernel
theorem kd_199 : kd 199 = .inl (.int, 10) := by decide +kernel
theorem kd_200 : kd 200 = .inl (.int, 10) := by decide +kernel
theorem kd_201 : kd 201 = .inl (.int, 10) := by decide +kernel
theorem kd_202 : kd 202 = .inl (.int, 10) := by decide +kernel
theorem kd_203 : kd 203 = .inl (.int, 10) := by decide +kernel
theorem kd_204 : kd 204 = .inl (.int, 10) := by decide +kernel
theorem kd_205 : kd 205 = .inl (.int, 10) := by decide +kernel
theorem kd_206 : kd 206 = .inl (.long, 10) := by decide +kernel
theorem kd_207 : kd 207 = .inl (.long, 10) := by decide +kernel
theorem kd_208 : kd 208 = .inl (.long, 10) := by decide +kernel
theorem kd_209 : kd 209 = .inr 7 := by decide +kernel
theorem kd_210 : kd 210 = .inl (.int, 108) := by decide +kernel
theorem kd_211 : kd 211 = .inl (.long, 34) := by decide +kernel
theorem kd_212 : kd 212 = .inl (.int, 864) := by decide +kernel
theorem kd_213 : kd 213 = .inl (.long, 272) := by decide +kernel
theorem kd_214 : kd 214 = .inl (.int, 108) := by decide +kernel
theorem kd_215 : kd 215 = .inl (.long, 34) := by decide +kernel
theorem kd_216 : kd 216 = .inl (.int, 108) := by decide +kernel
theorem kd_217 : kd 217 = .inl (.long, 34) := by decide +kernel
theorem kd_218 : kd 218 = .inl (.int, 60) := by decide +kernel
theorem kd_219 : kd 219 = .inl (.int, 10) := by decide +kernel
theorem kd_220 : kd 220 = .inl (.int, 10) := by decide +kernel
theorem kd_221 : kd 221 = .inl (.int, 10) := by decide +kernel
theorem kd_222 : kd 222 = .inl (.boolean, 10) := by decide +kernel
theorem kd_223 : kd 223 = .inl (.int, 10) := by decide +kernel
theorem kd_224 : kd 224 = .inl (.int, 10) := by decide +kernel
theorem kd_225 : kd 225 = .inl (.int, 10) := by decide +kernel
theorem kd_226 : kd 226 = .inl (.int, 10) := by decide +kernel
theorem kd_227 : kd 227 = .inl (.long, 10) := by decide +kernel
theorem kd_228 : kd 228 = .inl (.int, 10) := by decide +kernel
theorem kd_229 : kd 229 = .inl (.int, 10) := by decide +kernel
theorem kd_230 : kd 230 = .inl (.int, 10) := by decide +kernel
theorem kd_231 : kd 231 = .inl (.long, 10) := by decide +kernel
theorem kd_232 : kd 232 = .inl (.boolean, 10) := by decide +kernel
theorem kd_233 : kd 233 = .inl (.long, 1) := by decide +kernel
theorem kd_234 : kd 234 = .inl (.double, 1) := by decide +kernel
/-- a network, a state of the pool -/
def NetA (a : Nat) : Prop := ∀ k, k < 14 → kd (a + k) = kNet.getD k (.inr 99)
def StaA (t : Nat) : Prop := ∀ k, k < 13 → kd (t + k) = kState.getD k (.inr 99)
theorem net0 {a : Nat} (h : NetA a) : kd a = .inr 2 := h 0 (by decide)
theorem net1 {a : Nat} (h : NetA a) : kd (a + 1) = .inl (.int, 7) := h 1 (by decide)
theorem net2 {a : Nat} (h : NetA a) : kd (a + 2) = .inl (.int, 10) := h 2 (by decide)
theorem net3 {a : Nat} (h : NetA a) : kd (a + 3) = .inl (.int, 10) := h 3 (by decide)
theorem net4 {a : Nat} (h : NetA a) : kd (a + 4) = .inl (.int, 10) := h 4 (by decide)
theorem net5 {a : Nat} (h : NetA a) : kd (a + 5) = .inl (.int, 10) := h 5 (by decide)
theorem net6 {a : Nat} (h : NetA a) : kd (a + 6) = .inl (.int, 10) := h 6 (by decide)
theorem net7 {a : Nat} (h : NetA a) : kd (a + 7) = .inl (.int, 10) := h 7 (by decide)
theorem net8 {a : Nat} (h : NetA a) : kd (a + 8) = .inl (.int, 10) := h 8 (by decide)
theorem net9 {a : Nat} (h : NetA a) : kd (a + 9) = .inl (.int, 10) := h 9 (by decide)
theorem net10 {a : Nat} (h : NetA a) : kd (a + 10) = .inl (.int, 10) := h 10 (by decide)
theorem net11 {a : Nat} (h : NetA a) : kd (a + 11) = .inl (.long, 10) := h 11 (by decide)
theorem net12 {a : Nat} (h : NetA a) : kd (a + 12) = .inl (.long, 10) := h 12 (by decide)
theorem net13 {a : Nat} (h : NetA a) : kd (a + 13) = .inl (.long, 10) := h 13 (by decide)
theorem sta0 {t : Nat} (h : StaA t) : kd t = .inr 4 := h 0 (by decide)
theorem sta1 {t : Nat} (h : StaA t) : kd (t + 1) = .inl (.int, 10) := h 1 (by decide)
theorem sta2 {t : Nat} (h : StaA t) : kd (t + 2) = .inl (.int, 10) := h 2 (by decide)
theorem sta3 {t : Nat} (h : StaA t) : kd (t + 3) = .inl (.int, 10) := h 3 (by decide)
theorem sta4 {t : Nat} (h : StaA t) : kd (t + 4) = .inl (.int, 10) := h 4 (by decide)
theorem sta5 {t : Nat} (h : StaA t) : kd (t + 5) = .inl (.int, 10) := h 5 (by decide)
theorem sta6 {t : Nat} (h : StaA t) : kd (t + 6) = .inl (.int, 10) := h 6 (by decide)
theorem sta7 {t : Nat} (h : StaA t) : kd (t + 7) = .inl (.int, 10) := h 7 (by decide)
theorem sta8 {t : Nat} (h : StaA t) : kd (t + 8) = .inl (.long, 10) := h 8 (by decide)
theorem sta9 {t : Nat} (h : StaA t) : kd (t + 9) = .inl (.long, 10) := h 9 (by decide)
theorem sta10 {t : Nat} (h : StaA t) : kd (t + 10) = .inl (.long, 10) := h 10 (by decide)
theorem sta11 {t : Nat} (h : StaA t) : kd (t + 11) = .inl (.long, 10) := h 11 (by decide)
theorem sta12 {t : Nat} (h : StaA t) : kd (t + 12) = .inl (.long, 10) := h 12 (by decide)
theorem netA_1 : NetA 1 := by unfold NetA; decide +kernel
theorem netA_15 : NetA 15 := by unfold NetA; decide +kernel
theorem netA_29 : NetA 29 := by unfold NetA; decide +kernel
theorem staA_53 : StaA 53 := by unfold StaA; decide +kernel
theorem staA_66 : StaA 66 := by unfold StaA; decide +kernel
theorem earl_netN : ∀ j, j < 9 → NetA (83 + 14 * j) := by unfold NetA; decide +kernel
theorem earl_net {i : Int32} (h : vp_in i 9) : NetA (83 + 14 * i.toNatClampNeg) := earl_netN _ (Nat.not_le.mp fun q => h (Or.inr q))
theorem Ws_pick {x : Ctx} {n pc : Nat} {L L' : List (Nat × Value)} {S : List Value} {σ : Mem} (ks : List Nat) (hL : ks.filterMap (fun k => L[k]?) = L') (k : Ws x n pc L' S σ) : Ws x n pc L S σ := by
  refine Ws_sub (fun q hq => ?_) k
  rw [← hL] at hq
  obtain ⟨j, -, hj⟩ := List.mem_filterMap.mp hq
  exact List.mem_of_getElem? hj
theorem Px.fr {x : Ctx} {d κ : Nat} {X : String → Mem → Prop} (h : Px x d κ X) (h1 : 1 ≤ d) (h2 : 60 ≤ 50 * d + 60) : ∀ p l e R s m args below meth c g QQ c0 s0 nL, x = (p, l, e, R, s, m, args, below, meth, c, g, QQ, c0, s0, nL) → 1 ≤ R.frames ∧ 60 ≤ R.locals := by
  intro p l e R s m args below meth c g QQ c0 s0 nL hx
  subst hx
  obtain ⟨rfl, -⟩ := h
  exact ⟨h1, h2⟩
theorem tsw_out (N : Nat) {v : Int32} (hN : N < 2 ^ 31) (h : ∀ k : Nat, k < N → ¬ v = nI k) : v.toInt < 0 ∨ ((N : Int) - 1) < v.toInt := by
  rcases Int.lt_or_le v.toInt 0 with h1 | h1
  · exact Or.inl h1
  · refine Or.inr ?_
    apply Int.not_le.mp
    intro h2
    refine h v.toInt.toNat (by omega) ?_
    rw [← Int32.toInt_inj, nI_toInt (by omega)]
    omega
theorem nb_sub {ws : List Cond} (h : ∀ w ∈ ws, w ∈ lw_tbl) (hg : ws.all nbWord = true) : ∀ w ∈ ws, w ∈ NB := fun w hw => List.mem_filter.mpr ⟨h w hw, List.all_eq_true.mp hg w hw⟩
theorem thN : ∀ n ∈ ["java/lang/RuntimeException", "java/lang/Exception"], Bundle.fit n = true := by decide +kernel
theorem thIOO : Bundle.fit "java/lang/IndexOutOfBoundsException" = true ∧ Cond.initialized "java/lang/IndexOutOfBoundsException" ∈ TB ∧ (∀ w ∈ (vx_atS "HeatNetwork" 78 "java/lang/IndexOutOfBoundsException" ["java/lang/RuntimeException", "java/lang/Exception"]).filter goodWord, w ∈ TB) ∧ (∀ w ∈ (vx_atS "HeatNetwork" 78 "java/lang/IndexOutOfBoundsException" ["java/lang/RuntimeException", "java/lang/Exception"]).filter (fun w => !goodWord w), w ∈ NB) ∧ (∀ w ∈ Cond.classLink "HeatNetwork" 74 "java/lang/IndexOutOfBoundsException" :: Cond.initialized "java/lang/IndexOutOfBoundsException" :: vx_atS "HeatNetwork" 78 "java/lang/IndexOutOfBoundsException" ["java/lang/RuntimeException", "java/lang/Exception"], vx_ot w = true) :=
  ⟨by decide +kernel, wd_97, tb_sub (by decide +kernel) (by decide +kernel), nb_sub (by decide +kernel) (by decide +kernel), by decide +kernel⟩
theorem thIAE : Bundle.fit "java/lang/IllegalArgumentException" = true ∧ Cond.initialized "java/lang/IllegalArgumentException" ∈ TB ∧ (∀ w ∈ (vx_atS "HeatNetwork" 85 "java/lang/IllegalArgumentException" ["java/lang/RuntimeException", "java/lang/Exception"]).filter goodWord, w ∈ TB) ∧ (∀ w ∈ (vx_atS "HeatNetwork" 85 "java/lang/IllegalArgumentException" ["java/lang/RuntimeException", "java/lang/Exception"]).filter (fun w => !goodWord w), w ∈ NB) ∧ (∀ w ∈ Cond.classLink "HeatNetwork" 81 "java/lang/IllegalArgumentException" :: Cond.initialized "java/lang/IllegalArgumentException" :: vx_atS "HeatNetwork" 85 "java/lang/IllegalArgumentException" ["java/lang/RuntimeException", "java/lang/Exception"], vx_ot w = true) :=
  ⟨by decide +kernel, wd_100, tb_sub (by decide +kernel) (by decide +kernel), nb_sub (by decide +kernel) (by decide +kernel), by decide +kernel⟩
theorem thUOE : Bundle.fit "java/lang/UnsupportedOperationException" = true ∧ Cond.initialized "java/lang/UnsupportedOperationException" ∈ TB ∧ (∀ w ∈ (vx_atS "HeatNetwork" 380 "java/lang/UnsupportedOperationException" ["java/lang/RuntimeException", "java/lang/Exception"]).filter goodWord, w ∈ TB) ∧ (∀ w ∈ (vx_atS "HeatNetwork" 380 "java/lang/UnsupportedOperationException" ["java/lang/RuntimeException", "java/lang/Exception"]).filter (fun w => !goodWord w), w ∈ NB) ∧ (∀ w ∈ Cond.classLink "HeatNetwork" 376 "java/lang/UnsupportedOperationException" :: Cond.initialized "java/lang/UnsupportedOperationException" :: vx_atS "HeatNetwork" 380 "java/lang/UnsupportedOperationException" ["java/lang/RuntimeException", "java/lang/Exception"], vx_ot w = true) :=
  ⟨by decide +kernel, wd_104, tb_sub (by decide +kernel) (by decide +kernel), nb_sub (by decide +kernel) (by decide +kernel), by decide +kernel⟩
theorem thISE : Bundle.fit "java/lang/IllegalStateException" = true ∧ Cond.initialized "java/lang/IllegalStateException" ∈ TB ∧ (∀ w ∈ (vx_atS "HeatNetwork" 174 "java/lang/IllegalStateException" ["java/lang/RuntimeException", "java/lang/Exception"]).filter goodWord, w ∈ TB) ∧ (∀ w ∈ (vx_atS "HeatNetwork" 174 "java/lang/IllegalStateException" ["java/lang/RuntimeException", "java/lang/Exception"]).filter (fun w => !goodWord w), w ∈ NB) ∧ (∀ w ∈ Cond.classLink "HeatNetwork" 170 "java/lang/IllegalStateException" :: Cond.initialized "java/lang/IllegalStateException" :: vx_atS "HeatNetwork" 174 "java/lang/IllegalStateException" ["java/lang/RuntimeException", "java/lang/Exception"], vx_ot w = true) :=
  ⟨by decide +kernel, wd_107, tb_sub (by decide +kernel) (by decide +kernel), nb_sub (by decide +kernel) (by decide +kernel), by decide +kernel⟩
theorem thARI : Bundle.fit "java/lang/ArithmeticException" = true ∧ Cond.initialized "java/lang/ArithmeticException" ∈ TB ∧ (∀ w ∈ (vx_atS "HeatNetwork" 350 "java/lang/ArithmeticException" ["java/lang/RuntimeException", "java/lang/Exception"]).filter goodWord, w ∈ TB) ∧ (∀ w ∈ (vx_atS "HeatNetwork" 350 "java/lang/ArithmeticException" ["java/lang/RuntimeException", "java/lang/Exception"]).filter (fun w => !goodWord w), w ∈ NB) ∧ (∀ w ∈ Cond.classLink "HeatNetwork" 346 "java/lang/ArithmeticException" :: Cond.initialized "java/lang/ArithmeticException" :: vx_atS "HeatNetwork" 350 "java/lang/ArithmeticException" ["java/lang/RuntimeException", "java/lang/Exception"], vx_ot w = true) :=
  ⟨by decide +kernel, wd_108, tb_sub (by decide +kernel) (by decide +kernel), nb_sub (by decide +kernel) (by decide +kernel), by decide +kernel⟩
theorem yd_X0_takeOver : yX0_takeOver.cls ≠ "java/lang/invoke/MethodHandle" ∧ yX0_takeOver.cls ≠ "java/lang/invoke/VarHandle" ∧ (parseMethodDescriptor yX0_takeOver.desc).map (fun d => d.parameters.length) = some 1 := by decide +kernel
theorem yd_X0_pipeReason : yX0_pipeReason.cls ≠ "java/lang/invoke/MethodHandle" ∧ yX0_pipeReason.cls ≠ "java/lang/invoke/VarHandle" ∧ (parseMethodDescriptor yX0_pipeReason.desc).map (fun d => d.parameters.length) = some 4 := by decide +kernel
theorem yd_X0_stationReason : yX0_stationReason.cls ≠ "java/lang/invoke/MethodHandle" ∧ yX0_stationReason.cls ≠ "java/lang/invoke/VarHandle" ∧ (parseMethodDescriptor yX0_stationReason.desc).map (fun d => d.parameters.length) = some 4 := by decide +kernel
theorem yd_X0_removalReason : yX0_removalReason.cls ≠ "java/lang/invoke/MethodHandle" ∧ yX0_removalReason.cls ≠ "java/lang/invoke/VarHandle" ∧ (parseMethodDescriptor yX0_removalReason.desc).map (fun d => d.parameters.length) = some 1 := by decide +kernel
theorem yd_X0_putPipe : yX0_putPipe.cls ≠ "java/lang/invoke/MethodHandle" ∧ yX0_putPipe.cls ≠ "java/lang/invoke/VarHandle" ∧ (parseMethodDescriptor yX0_putPipe.desc).map (fun d => d.parameters.length) = some 4 := by decide +kernel
theorem yd_X0_dropPipe : yX0_dropPipe.cls ≠ "java/lang/invoke/MethodHandle" ∧ yX0_dropPipe.cls ≠ "java/lang/invoke/VarHandle" ∧ (parseMethodDescriptor yX0_dropPipe.desc).map (fun d => d.parameters.length) = some 1 := by decide +kernel
theorem yd_X0_putStation : yX0_putStation.cls ≠ "java/lang/invoke/MethodHandle" ∧ yX0_putStation.cls ≠ "java/lang/invoke/VarHandle" ∧ (parseMethodDescriptor yX0_putStation.desc).map (fun d => d.parameters.length) = some 4 := by decide +kernel
theorem yd_X0_dropStation : yX0_dropStation.cls ≠ "java/lang/invoke/MethodHandle" ∧ yX0_dropStation.cls ≠ "java/lang/invoke/VarHandle" ∧ (parseMethodDescriptor yX0_dropStation.desc).map (fun d => d.parameters.length) = some 1 := by decide +kernel
theorem yd_X0_hasStation : yX0_hasStation.cls ≠ "java/lang/invoke/MethodHandle" ∧ yX0_hasStation.cls ≠ "java/lang/invoke/VarHandle" ∧ (parseMethodDescriptor yX0_hasStation.desc).map (fun d => d.parameters.length) = some 1 := by decide +kernel
theorem yd_X0_stationCount : yX0_stationCount.cls ≠ "java/lang/invoke/MethodHandle" ∧ yX0_stationCount.cls ≠ "java/lang/invoke/VarHandle" ∧ (parseMethodDescriptor yX0_stationCount.desc).map (fun d => d.parameters.length) = some 0 := by decide +kernel
theorem yd_X0_hasPipe : yX0_hasPipe.cls ≠ "java/lang/invoke/MethodHandle" ∧ yX0_hasPipe.cls ≠ "java/lang/invoke/VarHandle" ∧ (parseMethodDescriptor yX0_hasPipe.desc).map (fun d => d.parameters.length) = some 2 := by decide +kernel
theorem yd_X0_farEnd : yX0_farEnd.cls ≠ "java/lang/invoke/MethodHandle" ∧ yX0_farEnd.cls ≠ "java/lang/invoke/VarHandle" ∧ (parseMethodDescriptor yX0_farEnd.desc).map (fun d => d.parameters.length) = some 2 := by decide +kernel
theorem yd_X0_partOf : yX0_partOf.cls ≠ "java/lang/invoke/MethodHandle" ∧ yX0_partOf.cls ≠ "java/lang/invoke/VarHandle" ∧ (parseMethodDescriptor yX0_partOf.desc).map (fun d => d.parameters.length) = some 1 := by decide +kernel
theorem yd_X0_pipesWithin : yX0_pipesWithin.cls ≠ "java/lang/invoke/MethodHandle" ∧ yX0_pipesWithin.cls ≠ "java/lang/invoke/VarHandle" ∧ (parseMethodDescriptor yX0_pipesWithin.desc).map (fun d => d.parameters.length) = some 1 := by decide +kernel
theorem yd_X0_wantedHeat : yX0_wantedHeat.cls ≠ "java/lang/invoke/MethodHandle" ∧ yX0_wantedHeat.cls ≠ "java/lang/invoke/VarHandle" ∧ (parseMethodDescriptor yX0_wantedHeat.desc).map (fun d => d.parameters.length) = some 1 := by decide +kernel
theorem yd_X0_tariffOf : yX0_tariffOf.cls ≠ "java/lang/invoke/MethodHandle" ∧ yX0_tariffOf.cls ≠ "java/lang/invoke/VarHandle" ∧ (parseMethodDescriptor yX0_tariffOf.desc).map (fun d => d.parameters.length) = some 1 := by decide +kernel
theorem yd_X0_countedHeat : yX0_countedHeat.cls ≠ "java/lang/invoke/MethodHandle" ∧ yX0_countedHeat.cls ≠ "java/lang/invoke/VarHandle" ∧ (parseMethodDescriptor yX0_countedHeat.desc).map (fun d => d.parameters.length) = some 2 := by decide +kernel
theorem yd_X0_paymentFor : yX0_paymentFor.cls ≠ "java/lang/invoke/MethodHandle" ∧ yX0_paymentFor.cls ≠ "java/lang/invoke/VarHandle" ∧ (parseMethodDescriptor yX0_paymentFor.desc).map (fun d => d.parameters.length) = some 2 := by decide +kernel
theorem yd_X0_dropOf : yX0_dropOf.cls ≠ "java/lang/invoke/MethodHandle" ∧ yX0_dropOf.cls ≠ "java/lang/invoke/VarHandle" ∧ (parseMethodDescriptor yX0_dropOf.desc).map (fun d => d.parameters.length) = some 2 := by decide +kernel
theorem yd_X0_cooled : yX0_cooled.cls ≠ "java/lang/invoke/MethodHandle" ∧ yX0_cooled.cls ≠ "java/lang/invoke/VarHandle" ∧ (parseMethodDescriptor yX0_cooled.desc).map (fun d => d.parameters.length) = some 3 := by decide +kernel
theorem yd_X1_follow : yX1_follow.cls ≠ "java/lang/invoke/MethodHandle" ∧ yX1_follow.cls ≠ "java/lang/invoke/VarHandle" ∧ (parseMethodDescriptor yX1_follow.desc).map (fun d => d.parameters.length) = some 1 := by decide +kernel
theorem yd_X1_isLoopBeginning : yX1_isLoopBeginning.cls ≠ "java/lang/invoke/MethodHandle" ∧ yX1_isLoopBeginning.cls ≠ "java/lang/invoke/VarHandle" ∧ (parseMethodDescriptor yX1_isLoopBeginning.desc).map (fun d => d.parameters.length) = some 1 := by decide +kernel
theorem yd_X1_findDistances : yX1_findDistances.cls ≠ "java/lang/invoke/MethodHandle" ∧ yX1_findDistances.cls ≠ "java/lang/invoke/VarHandle" ∧ (parseMethodDescriptor yX1_findDistances.desc).map (fun d => d.parameters.length) = some 1 := by decide +kernel
theorem yd_X1_findLoop : yX1_findLoop.cls ≠ "java/lang/invoke/MethodHandle" ∧ yX1_findLoop.cls ≠ "java/lang/invoke/VarHandle" ∧ (parseMethodDescriptor yX1_findLoop.desc).map (fun d => d.parameters.length) = some 1 := by decide +kernel
theorem yd_X1_closingPipe : yX1_closingPipe.cls ≠ "java/lang/invoke/MethodHandle" ∧ yX1_closingPipe.cls ≠ "java/lang/invoke/VarHandle" ∧ (parseMethodDescriptor yX1_closingPipe.desc).map (fun d => d.parameters.length) = some 1 := by decide +kernel
theorem yd_X1_goRound : yX1_goRound.cls ≠ "java/lang/invoke/MethodHandle" ∧ yX1_goRound.cls ≠ "java/lang/invoke/VarHandle" ∧ (parseMethodDescriptor yX1_goRound.desc).map (fun d => d.parameters.length) = some 2 := by decide +kernel
theorem yd_X1_nextInLoop : yX1_nextInLoop.cls ≠ "java/lang/invoke/MethodHandle" ∧ yX1_nextInLoop.cls ≠ "java/lang/invoke/VarHandle" ∧ (parseMethodDescriptor yX1_nextInLoop.desc).map (fun d => d.parameters.length) = some 3 := by decide +kernel
theorem yd_X2_find : yX2_find.cls ≠ "java/lang/invoke/MethodHandle" ∧ yX2_find.cls ≠ "java/lang/invoke/VarHandle" ∧ (parseMethodDescriptor yX2_find.desc).map (fun d => d.parameters.length) = some 2 := by decide +kernel
theorem yd_X2_stationHeat : yX2_stationHeat.cls ≠ "java/lang/invoke/MethodHandle" ∧ yX2_stationHeat.cls ≠ "java/lang/invoke/VarHandle" ∧ (parseMethodDescriptor yX2_stationHeat.desc).map (fun d => d.parameters.length) = some 2 := by decide +kernel
theorem yd_X2_allStationHeat : yX2_allStationHeat.cls ≠ "java/lang/invoke/MethodHandle" ∧ yX2_allStationHeat.cls ≠ "java/lang/invoke/VarHandle" ∧ (parseMethodDescriptor yX2_allStationHeat.desc).map (fun d => d.parameters.length) = some 1 := by decide +kernel
theorem yd_X2_madeHeat : yX2_madeHeat.cls ≠ "java/lang/invoke/MethodHandle" ∧ yX2_madeHeat.cls ≠ "java/lang/invoke/VarHandle" ∧ (parseMethodDescriptor yX2_madeHeat.desc).map (fun d => d.parameters.length) = some 1 := by decide +kernel
theorem yd_X2_greatestHead : yX2_greatestHead.cls ≠ "java/lang/invoke/MethodHandle" ∧ yX2_greatestHead.cls ≠ "java/lang/invoke/VarHandle" ∧ (parseMethodDescriptor yX2_greatestHead.desc).map (fun d => d.parameters.length) = some 1 := by decide +kernel
theorem yd_X2_findStationFlows : yX2_findStationFlows.cls ≠ "java/lang/invoke/MethodHandle" ∧ yX2_findStationFlows.cls ≠ "java/lang/invoke/VarHandle" ∧ (parseMethodDescriptor yX2_findStationFlows.desc).map (fun d => d.parameters.length) = some 2 := by decide +kernel
theorem yd_X2_drawnFlow : yX2_drawnFlow.cls ≠ "java/lang/invoke/MethodHandle" ∧ yX2_drawnFlow.cls ≠ "java/lang/invoke/VarHandle" ∧ (parseMethodDescriptor yX2_drawnFlow.desc).map (fun d => d.parameters.length) = some 2 := by decide +kernel
theorem yd_X2_findTreeFlows : yX2_findTreeFlows.cls ≠ "java/lang/invoke/MethodHandle" ∧ yX2_findTreeFlows.cls ≠ "java/lang/invoke/VarHandle" ∧ (parseMethodDescriptor yX2_findTreeFlows.desc).map (fun d => d.parameters.length) = some 2 := by decide +kernel
theorem yd_X2_findLoopFlows : yX2_findLoopFlows.cls ≠ "java/lang/invoke/MethodHandle" ∧ yX2_findLoopFlows.cls ≠ "java/lang/invoke/VarHandle" ∧ (parseMethodDescriptor yX2_findLoopFlows.desc).map (fun d => d.parameters.length) = some 2 := by decide +kernel
theorem yd_X2_sendRound : yX2_sendRound.cls ≠ "java/lang/invoke/MethodHandle" ∧ yX2_sendRound.cls ≠ "java/lang/invoke/VarHandle" ∧ (parseMethodDescriptor yX2_sendRound.desc).map (fun d => d.parameters.length) = some 3 := by decide +kernel
theorem yd_X2_carry : yX2_carry.cls ≠ "java/lang/invoke/MethodHandle" ∧ yX2_carry.cls ≠ "java/lang/invoke/VarHandle" ∧ (parseMethodDescriptor yX2_carry.desc).map (fun d => d.parameters.length) = some 4 := by decide +kernel
theorem yd_X2_findWaterOrder : yX2_findWaterOrder.cls ≠ "java/lang/invoke/MethodHandle" ∧ yX2_findWaterOrder.cls ≠ "java/lang/invoke/VarHandle" ∧ (parseMethodDescriptor yX2_findWaterOrder.desc).map (fun d => d.parameters.length) = some 1 := by decide +kernel
theorem yd_X2_putLoopInOrder : yX2_putLoopInOrder.cls ≠ "java/lang/invoke/MethodHandle" ∧ yX2_putLoopInOrder.cls ≠ "java/lang/invoke/VarHandle" ∧ (parseMethodDescriptor yX2_putLoopInOrder.desc).map (fun d => d.parameters.length) = some 2 := by decide +kernel
theorem yd_X2_findTemperatures : yX2_findTemperatures.cls ≠ "java/lang/invoke/MethodHandle" ∧ yX2_findTemperatures.cls ≠ "java/lang/invoke/VarHandle" ∧ (parseMethodDescriptor yX2_findTemperatures.desc).map (fun d => d.parameters.length) = some 2 := by decide +kernel
theorem yd_X2_flowTo : yX2_flowTo.cls ≠ "java/lang/invoke/MethodHandle" ∧ yX2_flowTo.cls ≠ "java/lang/invoke/VarHandle" ∧ (parseMethodDescriptor yX2_flowTo.desc).map (fun d => d.parameters.length) = some 3 := by decide +kernel
theorem yd_X2_bring : yX2_bring.cls ≠ "java/lang/invoke/MethodHandle" ∧ yX2_bring.cls ≠ "java/lang/invoke/VarHandle" ∧ (parseMethodDescriptor yX2_bring.desc).map (fun d => d.parameters.length) = some 3 := by decide +kernel
theorem yd_X2_findReturns : yX2_findReturns.cls ≠ "java/lang/invoke/MethodHandle" ∧ yX2_findReturns.cls ≠ "java/lang/invoke/VarHandle" ∧ (parseMethodDescriptor yX2_findReturns.desc).map (fun d => d.parameters.length) = some 2 := by decide +kernel
theorem yd_X2_sendBack : yX2_sendBack.cls ≠ "java/lang/invoke/MethodHandle" ∧ yX2_sendBack.cls ≠ "java/lang/invoke/VarHandle" ∧ (parseMethodDescriptor yX2_sendBack.desc).map (fun d => d.parameters.length) = some 3 := by decide +kernel
theorem yd_X2_findHeads : yX2_findHeads.cls ≠ "java/lang/invoke/MethodHandle" ∧ yX2_findHeads.cls ≠ "java/lang/invoke/VarHandle" ∧ (parseMethodDescriptor yX2_findHeads.desc).map (fun d => d.parameters.length) = some 2 := by decide +kernel
theorem yd_X2_findLoopHeads : yX2_findLoopHeads.cls ≠ "java/lang/invoke/MethodHandle" ∧ yX2_findLoopHeads.cls ≠ "java/lang/invoke/VarHandle" ∧ (parseMethodDescriptor yX2_findLoopHeads.desc).map (fun d => d.parameters.length) = some 2 := by decide +kernel
theorem yd_X3_valueOf : yX3_valueOf.cls ≠ "java/lang/invoke/MethodHandle" ∧ yX3_valueOf.cls ≠ "java/lang/invoke/VarHandle" ∧ (parseMethodDescriptor yX3_valueOf.desc).map (fun d => d.parameters.length) = some 2 := by decide +kernel
theorem yd_X3_findFault : yX3_findFault.cls ≠ "java/lang/invoke/MethodHandle" ∧ yX3_findFault.cls ≠ "java/lang/invoke/VarHandle" ∧ (parseMethodDescriptor yX3_findFault.desc).map (fun d => d.parameters.length) = some 0 := by decide +kernel
theorem yd_X3_readDefinition : yX3_readDefinition.cls ≠ "java/lang/invoke/MethodHandle" ∧ yX3_readDefinition.cls ≠ "java/lang/invoke/VarHandle" ∧ (parseMethodDescriptor yX3_readDefinition.desc).map (fun d => d.parameters.length) = some 0 := by decide +kernel
theorem yd_X3_nextSign : yX3_nextSign.cls ≠ "java/lang/invoke/MethodHandle" ∧ yX3_nextSign.cls ≠ "java/lang/invoke/VarHandle" ∧ (parseMethodDescriptor yX3_nextSign.desc).map (fun d => d.parameters.length) = some 0 := by decide +kernel
theorem yd_X3_take : yX3_take.cls ≠ "java/lang/invoke/MethodHandle" ∧ yX3_take.cls ≠ "java/lang/invoke/VarHandle" ∧ (parseMethodDescriptor yX3_take.desc).map (fun d => d.parameters.length) = some 1 := by decide +kernel
theorem yd_X3_readNumber : yX3_readNumber.cls ≠ "java/lang/invoke/MethodHandle" ∧ yX3_readNumber.cls ≠ "java/lang/invoke/VarHandle" ∧ (parseMethodDescriptor yX3_readNumber.desc).map (fun d => d.parameters.length) = some 2 := by decide +kernel
theorem yd_X3_readSigned : yX3_readSigned.cls ≠ "java/lang/invoke/MethodHandle" ∧ yX3_readSigned.cls ≠ "java/lang/invoke/VarHandle" ∧ (parseMethodDescriptor yX3_readSigned.desc).map (fun d => d.parameters.length) = some 1 := by decide +kernel
theorem yd_X4_setSetting : yX4_setSetting.cls ≠ "java/lang/invoke/MethodHandle" ∧ yX4_setSetting.cls ≠ "java/lang/invoke/VarHandle" ∧ (parseMethodDescriptor yX4_setSetting.desc).map (fun d => d.parameters.length) = some 2 := by decide +kernel
theorem yd_X4_setting : yX4_setting.cls ≠ "java/lang/invoke/MethodHandle" ∧ yX4_setting.cls ≠ "java/lang/invoke/VarHandle" ∧ (parseMethodDescriptor yX4_setting.desc).map (fun d => d.parameters.length) = some 1 := by decide +kernel
theorem yd_X4_addPipe : yX4_addPipe.cls ≠ "java/lang/invoke/MethodHandle" ∧ yX4_addPipe.cls ≠ "java/lang/invoke/VarHandle" ∧ (parseMethodDescriptor yX4_addPipe.desc).map (fun d => d.parameters.length) = some 4 := by decide +kernel
theorem yd_X4_removePipe : yX4_removePipe.cls ≠ "java/lang/invoke/MethodHandle" ∧ yX4_removePipe.cls ≠ "java/lang/invoke/VarHandle" ∧ (parseMethodDescriptor yX4_removePipe.desc).map (fun d => d.parameters.length) = some 1 := by decide +kernel
theorem yd_X4_addStation : yX4_addStation.cls ≠ "java/lang/invoke/MethodHandle" ∧ yX4_addStation.cls ≠ "java/lang/invoke/VarHandle" ∧ (parseMethodDescriptor yX4_addStation.desc).map (fun d => d.parameters.length) = some 4 := by decide +kernel
theorem yd_X4_removeStation : yX4_removeStation.cls ≠ "java/lang/invoke/MethodHandle" ∧ yX4_removeStation.cls ≠ "java/lang/invoke/VarHandle" ∧ (parseMethodDescriptor yX4_removeStation.desc).map (fun d => d.parameters.length) = some 1 := by decide +kernel
theorem yd_X4_setReturn : yX4_setReturn.cls ≠ "java/lang/invoke/MethodHandle" ∧ yX4_setReturn.cls ≠ "java/lang/invoke/VarHandle" ∧ (parseMethodDescriptor yX4_setReturn.desc).map (fun d => d.parameters.length) = some 2 := by decide +kernel
theorem yd_X4_setMeter : yX4_setMeter.cls ≠ "java/lang/invoke/MethodHandle" ∧ yX4_setMeter.cls ≠ "java/lang/invoke/VarHandle" ∧ (parseMethodDescriptor yX4_setMeter.desc).map (fun d => d.parameters.length) = some 3 := by decide +kernel
theorem yd_X4_hours : yX4_hours.cls ≠ "java/lang/invoke/MethodHandle" ∧ yX4_hours.cls ≠ "java/lang/invoke/VarHandle" ∧ (parseMethodDescriptor yX4_hours.desc).map (fun d => d.parameters.length) = some 1 := by decide +kernel
theorem yd_X4_append : yX4_append.cls ≠ "java/lang/invoke/MethodHandle" ∧ yX4_append.cls ≠ "java/lang/invoke/VarHandle" ∧ (parseMethodDescriptor yX4_append.desc).map (fun d => d.parameters.length) = some 1 := by decide +kernel
theorem yd_X4_run : yX4_run.cls ≠ "java/lang/invoke/MethodHandle" ∧ yX4_run.cls ≠ "java/lang/invoke/VarHandle" ∧ (parseMethodDescriptor yX4_run.desc).map (fun d => d.parameters.length) = some 0 := by decide +kernel
theorem yd_X4_faultPosition : yX4_faultPosition.cls ≠ "java/lang/invoke/MethodHandle" ∧ yX4_faultPosition.cls ≠ "java/lang/invoke/VarHandle" ∧ (parseMethodDescriptor yX4_faultPosition.desc).map (fun d => d.parameters.length) = some 0 := by decide +kernel
theorem yd_X4_refusal : yX4_refusal.cls ≠ "java/lang/invoke/MethodHandle" ∧ yX4_refusal.cls ≠ "java/lang/invoke/VarHandle" ∧ (parseMethodDescriptor yX4_refusal.desc).map (fun d => d.parameters.length) = some 0 := by decide +kernel
theorem yd_X4_pipe : yX4_pipe.cls ≠ "java/lang/invoke/MethodHandle" ∧ yX4_pipe.cls ≠ "java/lang/invoke/VarHandle" ∧ (parseMethodDescriptor yX4_pipe.desc).map (fun d => d.parameters.length) = some 2 := by decide +kernel
theorem yd_X4_station : yX4_station.cls ≠ "java/lang/invoke/MethodHandle" ∧ yX4_station.cls ≠ "java/lang/invoke/VarHandle" ∧ (parseMethodDescriptor yX4_station.desc).map (fun d => d.parameters.length) = some 2 := by decide +kernel
theorem yd_X4_meter : yX4_meter.cls ≠ "java/lang/invoke/MethodHandle" ∧ yX4_meter.cls ≠ "java/lang/invoke/VarHandle" ∧ (parseMethodDescriptor yX4_meter.desc).map (fun d => d.parameters.length) = some 2 := by decide +kernel
theorem yd_X4_flow : yX4_flow.cls ≠ "java/lang/invoke/MethodHandle" ∧ yX4_flow.cls ≠ "java/lang/invoke/VarHandle" ∧ (parseMethodDescriptor yX4_flow.desc).map (fun d => d.parameters.length) = some 1 := by decide +kernel
theorem yd_X4_direction : yX4_direction.cls ≠ "java/lang/invoke/MethodHandle" ∧ yX4_direction.cls ≠ "java/lang/invoke/VarHandle" ∧ (parseMethodDescriptor yX4_direction.desc).map (fun d => d.parameters.length) = some 1 := by decide +kernel
theorem yd_X4_temperature : yX4_temperature.cls ≠ "java/lang/invoke/MethodHandle" ∧ yX4_temperature.cls ≠ "java/lang/invoke/VarHandle" ∧ (parseMethodDescriptor yX4_temperature.desc).map (fun d => d.parameters.length) = some 2 := by decide +kernel
theorem yd_X4_loss : yX4_loss.cls ≠ "java/lang/invoke/MethodHandle" ∧ yX4_loss.cls ≠ "java/lang/invoke/VarHandle" ∧ (parseMethodDescriptor yX4_loss.desc).map (fun d => d.parameters.length) = some 1 := by decide +kernel
theorem yd_X4_rounding : yX4_rounding.cls ≠ "java/lang/invoke/MethodHandle" ∧ yX4_rounding.cls ≠ "java/lang/invoke/VarHandle" ∧ (parseMethodDescriptor yX4_rounding.desc).map (fun d => d.parameters.length) = some 1 := by decide +kernel
theorem yd_X4_head : yX4_head.cls ≠ "java/lang/invoke/MethodHandle" ∧ yX4_head.cls ≠ "java/lang/invoke/VarHandle" ∧ (parseMethodDescriptor yX4_head.desc).map (fun d => d.parameters.length) = some 1 := by decide +kernel
theorem yd_X4_neededHead : yX4_neededHead.cls ≠ "java/lang/invoke/MethodHandle" ∧ yX4_neededHead.cls ≠ "java/lang/invoke/VarHandle" ∧ (parseMethodDescriptor yX4_neededHead.desc).map (fun d => d.parameters.length) = some 0 := by decide +kernel
theorem yd_X4_imbalance : yX4_imbalance.cls ≠ "java/lang/invoke/MethodHandle" ∧ yX4_imbalance.cls ≠ "java/lang/invoke/VarHandle" ∧ (parseMethodDescriptor yX4_imbalance.desc).map (fun d => d.parameters.length) = some 0 := by decide +kernel
theorem yd_X4_rounds : yX4_rounds.cls ≠ "java/lang/invoke/MethodHandle" ∧ yX4_rounds.cls ≠ "java/lang/invoke/VarHandle" ∧ (parseMethodDescriptor yX4_rounds.desc).map (fun d => d.parameters.length) = some 0 := by decide +kernel
theorem yd_X4_loop : yX4_loop.cls ≠ "java/lang/invoke/MethodHandle" ∧ yX4_loop.cls ≠ "java/lang/invoke/VarHandle" ∧ (parseMethodDescriptor yX4_loop.desc).map (fun d => d.parameters.length) = some 1 := by decide +kernel
theorem yd_X4_distance : yX4_distance.cls ≠ "java/lang/invoke/MethodHandle" ∧ yX4_distance.cls ≠ "java/lang/invoke/VarHandle" ∧ (parseMethodDescriptor yX4_distance.desc).map (fun d => d.parameters.length) = some 1 := by decide +kernel
theorem yd_X4_part : yX4_part.cls ≠ "java/lang/invoke/MethodHandle" ∧ yX4_part.cls ≠ "java/lang/invoke/VarHandle" ∧ (parseMethodDescriptor yX4_part.desc).map (fun d => d.parameters.length) = some 1 := by decide +kernel
theorem yd_X4_isConnected : yX4_isConnected.cls ≠ "java/lang/invoke/MethodHandle" ∧ yX4_isConnected.cls ≠ "java/lang/invoke/VarHandle" ∧ (parseMethodDescriptor yX4_isConnected.desc).map (fun d => d.parameters.length) = some 1 := by decide +kernel
theorem yd_X4_suspect : yX4_suspect.cls ≠ "java/lang/invoke/MethodHandle" ∧ yX4_suspect.cls ≠ "java/lang/invoke/VarHandle" ∧ (parseMethodDescriptor yX4_suspect.desc).map (fun d => d.parameters.length) = some 0 := by decide +kernel
theorem yd_X4_trial : yX4_trial.cls ≠ "java/lang/invoke/MethodHandle" ∧ yX4_trial.cls ≠ "java/lang/invoke/VarHandle" ∧ (parseMethodDescriptor yX4_trial.desc).map (fun d => d.parameters.length) = some 2 := by decide +kernel
theorem yd_X4_bestReturn : yX4_bestReturn.cls ≠ "java/lang/invoke/MethodHandle" ∧ yX4_bestReturn.cls ≠ "java/lang/invoke/VarHandle" ∧ (parseMethodDescriptor yX4_bestReturn.desc).map (fun d => d.parameters.length) = some 1 := by decide +kernel
theorem yd_X4_account : yX4_account.cls ≠ "java/lang/invoke/MethodHandle" ∧ yX4_account.cls ≠ "java/lang/invoke/VarHandle" ∧ (parseMethodDescriptor yX4_account.desc).map (fun d => d.parameters.length) = some 1 := by decide +kernel
theorem yd_X4_efficiency : yX4_efficiency.cls ≠ "java/lang/invoke/MethodHandle" ∧ yX4_efficiency.cls ≠ "java/lang/invoke/VarHandle" ∧ (parseMethodDescriptor yX4_efficiency.desc).map (fun d => d.parameters.length) = some 0 := by decide +kernel
theorem yd_X4_returnDegrees : yX4_returnDegrees.cls ≠ "java/lang/invoke/MethodHandle" ∧ yX4_returnDegrees.cls ≠ "java/lang/invoke/VarHandle" ∧ (parseMethodDescriptor yX4_returnDegrees.desc).map (fun d => d.parameters.length) = some 0 := by decide +kernel
theorem yd_X4_count : yX4_count.cls ≠ "java/lang/invoke/MethodHandle" ∧ yX4_count.cls ≠ "java/lang/invoke/VarHandle" ∧ (parseMethodDescriptor yX4_count.desc).map (fun d => d.parameters.length) = some 1 := by decide +kernel
theorem yd_X4_undo : yX4_undo.cls ≠ "java/lang/invoke/MethodHandle" ∧ yX4_undo.cls ≠ "java/lang/invoke/VarHandle" ∧ (parseMethodDescriptor yX4_undo.desc).map (fun d => d.parameters.length) = some 0 := by decide +kernel
theorem yd_X4_save : yX4_save.cls ≠ "java/lang/invoke/MethodHandle" ∧ yX4_save.cls ≠ "java/lang/invoke/VarHandle" ∧ (parseMethodDescriptor yX4_save.desc).map (fun d => d.parameters.length) = some 0 := by decide +kernel
theorem yd_X4_restore : yX4_restore.cls ≠ "java/lang/invoke/MethodHandle" ∧ yX4_restore.cls ≠ "java/lang/invoke/VarHandle" ∧ (parseMethodDescriptor yX4_restore.desc).map (fun d => d.parameters.length) = some 0 := by decide +kernel
theorem yd_X4_beginChange : yX4_beginChange.cls ≠ "java/lang/invoke/MethodHandle" ∧ yX4_beginChange.cls ≠ "java/lang/invoke/VarHandle" ∧ (parseMethodDescriptor yX4_beginChange.desc).map (fun d => d.parameters.length) = some 0 := by decide +kernel
theorem yd_X4_endChange : yX4_endChange.cls ≠ "java/lang/invoke/MethodHandle" ∧ yX4_endChange.cls ≠ "java/lang/invoke/VarHandle" ∧ (parseMethodDescriptor yX4_endChange.desc).map (fun d => d.parameters.length) = some 0 := by decide +kernel
theorem yd_X4_settle : yX4_settle.cls ≠ "java/lang/invoke/MethodHandle" ∧ yX4_settle.cls ≠ "java/lang/invoke/VarHandle" ∧ (parseMethodDescriptor yX4_settle.desc).map (fun d => d.parameters.length) = some 0 := by decide +kernel
theorem yd_X4_tryReturn : yX4_tryReturn.cls ≠ "java/lang/invoke/MethodHandle" ∧ yX4_tryReturn.cls ≠ "java/lang/invoke/VarHandle" ∧ (parseMethodDescriptor yX4_tryReturn.desc).map (fun d => d.parameters.length) = some 2 := by decide +kernel
theorem yd_X4_carryOut : yX4_carryOut.cls ≠ "java/lang/invoke/MethodHandle" ∧ yX4_carryOut.cls ≠ "java/lang/invoke/VarHandle" ∧ (parseMethodDescriptor yX4_carryOut.desc).map (fun d => d.parameters.length) = some 1 := by decide +kernel
theorem yd_X4_definitionReason : yX4_definitionReason.cls ≠ "java/lang/invoke/MethodHandle" ∧ yX4_definitionReason.cls ≠ "java/lang/invoke/VarHandle" ∧ (parseMethodDescriptor yX4_definitionReason.desc).map (fun d => d.parameters.length) = some 5 := by decide +kernel
theorem yd_X4_hoursReason : yX4_hoursReason.cls ≠ "java/lang/invoke/MethodHandle" ∧ yX4_hoursReason.cls ≠ "java/lang/invoke/VarHandle" ∧ (parseMethodDescriptor yX4_hoursReason.desc).map (fun d => d.parameters.length) = some 0 := by decide +kernel
theorem yd_X4_passHours : yX4_passHours.cls ≠ "java/lang/invoke/MethodHandle" ∧ yX4_passHours.cls ≠ "java/lang/invoke/VarHandle" ∧ (parseMethodDescriptor yX4_passHours.desc).map (fun d => d.parameters.length) = some 1 := by decide +kernel
theorem yd_X4_refuseFor : yX4_refuseFor.cls ≠ "java/lang/invoke/MethodHandle" ∧ yX4_refuseFor.cls ≠ "java/lang/invoke/VarHandle" ∧ (parseMethodDescriptor yX4_refuseFor.desc).map (fun d => d.parameters.length) = some 1 := by decide +kernel
theorem yd_X4_needPipe : yX4_needPipe.cls ≠ "java/lang/invoke/MethodHandle" ∧ yX4_needPipe.cls ≠ "java/lang/invoke/VarHandle" ∧ (parseMethodDescriptor yX4_needPipe.desc).map (fun d => d.parameters.length) = some 1 := by decide +kernel
theorem yd_X4_needStation : yX4_needStation.cls ≠ "java/lang/invoke/MethodHandle" ∧ yX4_needStation.cls ≠ "java/lang/invoke/VarHandle" ∧ (parseMethodDescriptor yX4_needStation.desc).map (fun d => d.parameters.length) = some 1 := by decide +kernel
theorem yd_X4_needConnected : yX4_needConnected.cls ≠ "java/lang/invoke/MethodHandle" ∧ yX4_needConnected.cls ≠ "java/lang/invoke/VarHandle" ∧ (parseMethodDescriptor yX4_needConnected.desc).map (fun d => d.parameters.length) = some 1 := by decide +kernel
theorem yd_X4_needNode : yX4_needNode.cls ≠ "java/lang/invoke/MethodHandle" ∧ yX4_needNode.cls ≠ "java/lang/invoke/VarHandle" ∧ (parseMethodDescriptor yX4_needNode.desc).map (fun d => d.parameters.length) = some 1 := by decide +kernel
theorem yd_X4_needRange : yX4_needRange.cls ≠ "java/lang/invoke/MethodHandle" ∧ yX4_needRange.cls ≠ "java/lang/invoke/VarHandle" ∧ (parseMethodDescriptor yX4_needRange.desc).map (fun d => d.parameters.length) = some 3 := by decide +kernel
theorem yd_X4_isNode : yX4_isNode.cls ≠ "java/lang/invoke/MethodHandle" ∧ yX4_isNode.cls ≠ "java/lang/invoke/VarHandle" ∧ (parseMethodDescriptor yX4_isNode.desc).map (fun d => d.parameters.length) = some 1 := by decide +kernel
theorem yd_X4_isWithin : yX4_isWithin.cls ≠ "java/lang/invoke/MethodHandle" ∧ yX4_isWithin.cls ≠ "java/lang/invoke/VarHandle" ∧ (parseMethodDescriptor yX4_isWithin.desc).map (fun d => d.parameters.length) = some 3 := by decide +kernel
theorem yd_X4_settingReason : yX4_settingReason.cls ≠ "java/lang/invoke/MethodHandle" ∧ yX4_settingReason.cls ≠ "java/lang/invoke/VarHandle" ∧ (parseMethodDescriptor yX4_settingReason.desc).map (fun d => d.parameters.length) = some 2 := by decide +kernel
theorem yd_X4_sumOf : yX4_sumOf.cls ≠ "java/lang/invoke/MethodHandle" ∧ yX4_sumOf.cls ≠ "java/lang/invoke/VarHandle" ∧ (parseMethodDescriptor yX4_sumOf.desc).map (fun d => d.parameters.length) = some 1 := by decide +kernel
theorem yd_X5_thrown : yX5_thrown.cls ≠ "java/lang/invoke/MethodHandle" ∧ yX5_thrown.cls ≠ "java/lang/invoke/VarHandle" ∧ (parseMethodDescriptor yX5_thrown.desc).map (fun d => d.parameters.length) = some 0 := by decide +kernel
theorem yd_X5_raises : yX5_raises.cls ≠ "java/lang/invoke/MethodHandle" ∧ yX5_raises.cls ≠ "java/lang/invoke/VarHandle" ∧ (parseMethodDescriptor yX5_raises.desc).map (fun d => d.parameters.length) = some 1 := by decide +kernel
theorem yd_X5_refuses : yX5_refuses.cls ≠ "java/lang/invoke/MethodHandle" ∧ yX5_refuses.cls ≠ "java/lang/invoke/VarHandle" ∧ (parseMethodDescriptor yX5_refuses.desc).map (fun d => d.parameters.length) = some 2 := by decide +kernel
theorem yd_X5_in : yX5_in.cls ≠ "java/lang/invoke/MethodHandle" ∧ yX5_in.cls ≠ "java/lang/invoke/VarHandle" ∧ (parseMethodDescriptor yX5_in.desc).map (fun d => d.parameters.length) = some 3 := by decide +kernel
theorem yd_X5_isNode : yX5_isNode.cls ≠ "java/lang/invoke/MethodHandle" ∧ yX5_isNode.cls ≠ "java/lang/invoke/VarHandle" ∧ (parseMethodDescriptor yX5_isNode.desc).map (fun d => d.parameters.length) = some 1 := by decide +kernel
theorem yd_X5_changes : yX5_changes.cls ≠ "java/lang/invoke/MethodHandle" ∧ yX5_changes.cls ≠ "java/lang/invoke/VarHandle" ∧ (parseMethodDescriptor yX5_changes.desc).map (fun d => d.parameters.length) = some 0 := by decide +kernel
theorem yd_X5_pipes : yX5_pipes.cls ≠ "java/lang/invoke/MethodHandle" ∧ yX5_pipes.cls ≠ "java/lang/invoke/VarHandle" ∧ (parseMethodDescriptor yX5_pipes.desc).map (fun d => d.parameters.length) = some 0 := by decide +kernel
theorem yd_X5_isPipe : yX5_isPipe.cls ≠ "java/lang/invoke/MethodHandle" ∧ yX5_isPipe.cls ≠ "java/lang/invoke/VarHandle" ∧ (parseMethodDescriptor yX5_isPipe.desc).map (fun d => d.parameters.length) = some 1 := by decide +kernel
theorem yd_X5_of : yX5_of.cls ≠ "java/lang/invoke/MethodHandle" ∧ yX5_of.cls ≠ "java/lang/invoke/VarHandle" ∧ (parseMethodDescriptor yX5_of.desc).map (fun d => d.parameters.length) = some 2 := by decide +kernel
theorem yd_X5_across : yX5_across.cls ≠ "java/lang/invoke/MethodHandle" ∧ yX5_across.cls ≠ "java/lang/invoke/VarHandle" ∧ (parseMethodDescriptor yX5_across.desc).map (fun d => d.parameters.length) = some 2 := by decide +kernel
theorem yd_X5_measure : yX5_measure.cls ≠ "java/lang/invoke/MethodHandle" ∧ yX5_measure.cls ≠ "java/lang/invoke/VarHandle" ∧ (parseMethodDescriptor yX5_measure.desc).map (fun d => d.parameters.length) = some 1 := by decide +kernel
theorem yd_X5_findsLoop : yX5_findsLoop.cls ≠ "java/lang/invoke/MethodHandle" ∧ yX5_findsLoop.cls ≠ "java/lang/invoke/VarHandle" ∧ (parseMethodDescriptor yX5_findsLoop.desc).map (fun d => d.parameters.length) = some 0 := by decide +kernel
theorem yd_X5_isLoopPipe : yX5_isLoopPipe.cls ≠ "java/lang/invoke/MethodHandle" ∧ yX5_isLoopPipe.cls ≠ "java/lang/invoke/VarHandle" ∧ (parseMethodDescriptor yX5_isLoopPipe.desc).map (fun d => d.parameters.length) = some 1 := by decide +kernel
theorem yd_X5_hasStation : yX5_hasStation.cls ≠ "java/lang/invoke/MethodHandle" ∧ yX5_hasStation.cls ≠ "java/lang/invoke/VarHandle" ∧ (parseMethodDescriptor yX5_hasStation.desc).map (fun d => d.parameters.length) = some 1 := by decide +kernel
theorem yd_X5_wants : yX5_wants.cls ≠ "java/lang/invoke/MethodHandle" ∧ yX5_wants.cls ≠ "java/lang/invoke/VarHandle" ∧ (parseMethodDescriptor yX5_wants.desc).map (fun d => d.parameters.length) = some 1 := by decide +kernel
theorem yd_X5_drawn : yX5_drawn.cls ≠ "java/lang/invoke/MethodHandle" ∧ yX5_drawn.cls ≠ "java/lang/invoke/VarHandle" ∧ (parseMethodDescriptor yX5_drawn.desc).map (fun d => d.parameters.length) = some 2 := by decide +kernel
theorem yd_X5_out : yX5_out.cls ≠ "java/lang/invoke/MethodHandle" ∧ yX5_out.cls ≠ "java/lang/invoke/VarHandle" ∧ (parseMethodDescriptor yX5_out.desc).map (fun d => d.parameters.length) = some 1 := by decide +kernel
theorem yd_X5_around : yX5_around.cls ≠ "java/lang/invoke/MethodHandle" ∧ yX5_around.cls ≠ "java/lang/invoke/VarHandle" ∧ (parseMethodDescriptor yX5_around.desc).map (fun d => d.parameters.length) = some 1 := by decide +kernel
theorem yd_X5_drop : yX5_drop.cls ≠ "java/lang/invoke/MethodHandle" ∧ yX5_drop.cls ≠ "java/lang/invoke/VarHandle" ∧ (parseMethodDescriptor yX5_drop.desc).map (fun d => d.parameters.length) = some 2 := by decide +kernel
theorem yd_X5_carries : yX5_carries.cls ≠ "java/lang/invoke/MethodHandle" ∧ yX5_carries.cls ≠ "java/lang/invoke/VarHandle" ∧ (parseMethodDescriptor yX5_carries.desc).map (fun d => d.parameters.length) = some 3 := by decide +kernel
theorem yd_X5_flows : yX5_flows.cls ≠ "java/lang/invoke/MethodHandle" ∧ yX5_flows.cls ≠ "java/lang/invoke/VarHandle" ∧ (parseMethodDescriptor yX5_flows.desc).map (fun d => d.parameters.length) = some 0 := by decide +kernel
theorem yd_X5_through : yX5_through.cls ≠ "java/lang/invoke/MethodHandle" ∧ yX5_through.cls ≠ "java/lang/invoke/VarHandle" ∧ (parseMethodDescriptor yX5_through.desc).map (fun d => d.parameters.length) = some 2 := by decide +kernel
theorem yd_X5_from : yX5_from.cls ≠ "java/lang/invoke/MethodHandle" ∧ yX5_from.cls ≠ "java/lang/invoke/VarHandle" ∧ (parseMethodDescriptor yX5_from.desc).map (fun d => d.parameters.length) = some 1 := by decide +kernel
theorem yd_X5_to : yX5_to.cls ≠ "java/lang/invoke/MethodHandle" ∧ yX5_to.cls ≠ "java/lang/invoke/VarHandle" ∧ (parseMethodDescriptor yX5_to.desc).map (fun d => d.parameters.length) = some 1 := by decide +kernel
theorem yd_X5_isReady : yX5_isReady.cls ≠ "java/lang/invoke/MethodHandle" ∧ yX5_isReady.cls ≠ "java/lang/invoke/VarHandle" ∧ (parseMethodDescriptor yX5_isReady.desc).map (fun d => d.parameters.length) = some 2 := by decide +kernel
theorem yd_X5_mixes : yX5_mixes.cls ≠ "java/lang/invoke/MethodHandle" ∧ yX5_mixes.cls ≠ "java/lang/invoke/VarHandle" ∧ (parseMethodDescriptor yX5_mixes.desc).map (fun d => d.parameters.length) = some 2 := by decide +kernel
theorem yd_X5_temperatures : yX5_temperatures.cls ≠ "java/lang/invoke/MethodHandle" ∧ yX5_temperatures.cls ≠ "java/lang/invoke/VarHandle" ∧ (parseMethodDescriptor yX5_temperatures.desc).map (fun d => d.parameters.length) = some 0 := by decide +kernel
theorem yd_X5_looks : yX5_looks.cls ≠ "java/lang/invoke/MethodHandle" ∧ yX5_looks.cls ≠ "java/lang/invoke/VarHandle" ∧ (parseMethodDescriptor yX5_looks.desc).map (fun d => d.parameters.length) = some 0 := by decide +kernel
theorem yd_X5_made : yX5_made.cls ≠ "java/lang/invoke/MethodHandle" ∧ yX5_made.cls ≠ "java/lang/invoke/VarHandle" ∧ (parseMethodDescriptor yX5_made.desc).map (fun d => d.parameters.length) = some 0 := by decide +kernel
theorem yd_X5_heat : yX5_heat.cls ≠ "java/lang/invoke/MethodHandle" ∧ yX5_heat.cls ≠ "java/lang/invoke/VarHandle" ∧ (parseMethodDescriptor yX5_heat.desc).map (fun d => d.parameters.length) = some 1 := by decide +kernel
theorem yd_X5_allHeat : yX5_allHeat.cls ≠ "java/lang/invoke/MethodHandle" ∧ yX5_allHeat.cls ≠ "java/lang/invoke/VarHandle" ∧ (parseMethodDescriptor yX5_allHeat.desc).map (fun d => d.parameters.length) = some 0 := by decide +kernel
theorem yd_X5_loses : yX5_loses.cls ≠ "java/lang/invoke/MethodHandle" ∧ yX5_loses.cls ≠ "java/lang/invoke/VarHandle" ∧ (parseMethodDescriptor yX5_loses.desc).map (fun d => d.parameters.length) = some 1 := by decide +kernel
theorem yd_X5_tariff : yX5_tariff.cls ≠ "java/lang/invoke/MethodHandle" ∧ yX5_tariff.cls ≠ "java/lang/invoke/VarHandle" ∧ (parseMethodDescriptor yX5_tariff.desc).map (fun d => d.parameters.length) = some 1 := by decide +kernel
theorem yd_X5_counts : yX5_counts.cls ≠ "java/lang/invoke/MethodHandle" ∧ yX5_counts.cls ≠ "java/lang/invoke/VarHandle" ∧ (parseMethodDescriptor yX5_counts.desc).map (fun d => d.parameters.length) = some 1 := by decide +kernel
theorem yd_X5_pays : yX5_pays.cls ≠ "java/lang/invoke/MethodHandle" ∧ yX5_pays.cls ≠ "java/lang/invoke/VarHandle" ∧ (parseMethodDescriptor yX5_pays.desc).map (fun d => d.parameters.length) = some 1 := by decide +kernel
theorem yd_X5_headOf : yX5_headOf.cls ≠ "java/lang/invoke/MethodHandle" ∧ yX5_headOf.cls ≠ "java/lang/invoke/VarHandle" ∧ (parseMethodDescriptor yX5_headOf.desc).map (fun d => d.parameters.length) = some 1 := by decide +kernel
theorem yd_X5_needed : yX5_needed.cls ≠ "java/lang/invoke/MethodHandle" ∧ yX5_needed.cls ≠ "java/lang/invoke/VarHandle" ∧ (parseMethodDescriptor yX5_needed.desc).map (fun d => d.parameters.length) = some 0 := by decide +kernel
theorem yd_X5_isSettingValue : yX5_isSettingValue.cls ≠ "java/lang/invoke/MethodHandle" ∧ yX5_isSettingValue.cls ≠ "java/lang/invoke/VarHandle" ∧ (parseMethodDescriptor yX5_isSettingValue.desc).map (fun d => d.parameters.length) = some 2 := by decide +kernel
theorem yd_X5_pipeBy : yX5_pipeBy.cls ≠ "java/lang/invoke/MethodHandle" ∧ yX5_pipeBy.cls ≠ "java/lang/invoke/VarHandle" ∧ (parseMethodDescriptor yX5_pipeBy.desc).map (fun d => d.parameters.length) = some 4 := by decide +kernel
theorem yd_X5_stationBy : yX5_stationBy.cls ≠ "java/lang/invoke/MethodHandle" ∧ yX5_stationBy.cls ≠ "java/lang/invoke/VarHandle" ∧ (parseMethodDescriptor yX5_stationBy.desc).map (fun d => d.parameters.length) = some 4 := by decide +kernel
theorem yd_X5_goneBy : yX5_goneBy.cls ≠ "java/lang/invoke/MethodHandle" ∧ yX5_goneBy.cls ≠ "java/lang/invoke/VarHandle" ∧ (parseMethodDescriptor yX5_goneBy.desc).map (fun d => d.parameters.length) = some 1 := by decide +kernel
theorem yd_X5_settingBy : yX5_settingBy.cls ≠ "java/lang/invoke/MethodHandle" ∧ yX5_settingBy.cls ≠ "java/lang/invoke/VarHandle" ∧ (parseMethodDescriptor yX5_settingBy.desc).map (fun d => d.parameters.length) = some 2 := by decide +kernel
theorem yd_X5_hoursBy : yX5_hoursBy.cls ≠ "java/lang/invoke/MethodHandle" ∧ yX5_hoursBy.cls ≠ "java/lang/invoke/VarHandle" ∧ (parseMethodDescriptor yX5_hoursBy.desc).map (fun d => d.parameters.length) = some 1 := by decide +kernel
theorem yd_X5_setSetting : yX5_setSetting.cls ≠ "java/lang/invoke/MethodHandle" ∧ yX5_setSetting.cls ≠ "java/lang/invoke/VarHandle" ∧ (parseMethodDescriptor yX5_setSetting.desc).map (fun d => d.parameters.length) = some 2 := by decide +kernel
theorem yd_X5_setting : yX5_setting.cls ≠ "java/lang/invoke/MethodHandle" ∧ yX5_setting.cls ≠ "java/lang/invoke/VarHandle" ∧ (parseMethodDescriptor yX5_setting.desc).map (fun d => d.parameters.length) = some 1 := by decide +kernel
theorem yd_X5_tries : yX5_tries.cls ≠ "java/lang/invoke/MethodHandle" ∧ yX5_tries.cls ≠ "java/lang/invoke/VarHandle" ∧ (parseMethodDescriptor yX5_tries.desc).map (fun d => d.parameters.length) = some 0 := by decide +kernel
theorem yd_X5_comesBack : yX5_comesBack.cls ≠ "java/lang/invoke/MethodHandle" ∧ yX5_comesBack.cls ≠ "java/lang/invoke/VarHandle" ∧ (parseMethodDescriptor yX5_comesBack.desc).map (fun d => d.parameters.length) = some 0 := by decide +kernel
theorem yd_X5_keeps : yX5_keeps.cls ≠ "java/lang/invoke/MethodHandle" ∧ yX5_keeps.cls ≠ "java/lang/invoke/VarHandle" ∧ (parseMethodDescriptor yX5_keeps.desc).map (fun d => d.parameters.length) = some 0 := by decide +kernel
theorem yd_X5_addPipe : yX5_addPipe.cls ≠ "java/lang/invoke/MethodHandle" ∧ yX5_addPipe.cls ≠ "java/lang/invoke/VarHandle" ∧ (parseMethodDescriptor yX5_addPipe.desc).map (fun d => d.parameters.length) = some 4 := by decide +kernel
theorem yd_X5_removePipe : yX5_removePipe.cls ≠ "java/lang/invoke/MethodHandle" ∧ yX5_removePipe.cls ≠ "java/lang/invoke/VarHandle" ∧ (parseMethodDescriptor yX5_removePipe.desc).map (fun d => d.parameters.length) = some 1 := by decide +kernel
theorem yd_X5_stations : yX5_stations.cls ≠ "java/lang/invoke/MethodHandle" ∧ yX5_stations.cls ≠ "java/lang/invoke/VarHandle" ∧ (parseMethodDescriptor yX5_stations.desc).map (fun d => d.parameters.length) = some 0 := by decide +kernel
theorem yd_X5_addStation : yX5_addStation.cls ≠ "java/lang/invoke/MethodHandle" ∧ yX5_addStation.cls ≠ "java/lang/invoke/VarHandle" ∧ (parseMethodDescriptor yX5_addStation.desc).map (fun d => d.parameters.length) = some 4 := by decide +kernel
theorem yd_X5_removeStation : yX5_removeStation.cls ≠ "java/lang/invoke/MethodHandle" ∧ yX5_removeStation.cls ≠ "java/lang/invoke/VarHandle" ∧ (parseMethodDescriptor yX5_removeStation.desc).map (fun d => d.parameters.length) = some 1 := by decide +kernel
theorem yd_X5_setReturn : yX5_setReturn.cls ≠ "java/lang/invoke/MethodHandle" ∧ yX5_setReturn.cls ≠ "java/lang/invoke/VarHandle" ∧ (parseMethodDescriptor yX5_setReturn.desc).map (fun d => d.parameters.length) = some 2 := by decide +kernel
theorem yd_X5_setMeter : yX5_setMeter.cls ≠ "java/lang/invoke/MethodHandle" ∧ yX5_setMeter.cls ≠ "java/lang/invoke/VarHandle" ∧ (parseMethodDescriptor yX5_setMeter.desc).map (fun d => d.parameters.length) = some 3 := by decide +kernel
theorem yd_X5_hours : yX5_hours.cls ≠ "java/lang/invoke/MethodHandle" ∧ yX5_hours.cls ≠ "java/lang/invoke/VarHandle" ∧ (parseMethodDescriptor yX5_hours.desc).map (fun d => d.parameters.length) = some 1 := by decide +kernel
theorem yd_X5_append : yX5_append.cls ≠ "java/lang/invoke/MethodHandle" ∧ yX5_append.cls ≠ "java/lang/invoke/VarHandle" ∧ (parseMethodDescriptor yX5_append.desc).map (fun d => d.parameters.length) = some 1 := by decide +kernel
theorem yd_X5_here : yX5_here.cls ≠ "java/lang/invoke/MethodHandle" ∧ yX5_here.cls ≠ "java/lang/invoke/VarHandle" ∧ (parseMethodDescriptor yX5_here.desc).map (fun d => d.parameters.length) = some 0 := by decide +kernel
theorem yd_X5_takes : yX5_takes.cls ≠ "java/lang/invoke/MethodHandle" ∧ yX5_takes.cls ≠ "java/lang/invoke/VarHandle" ∧ (parseMethodDescriptor yX5_takes.desc).map (fun d => d.parameters.length) = some 1 := by decide +kernel
theorem yd_X5_digit : yX5_digit.cls ≠ "java/lang/invoke/MethodHandle" ∧ yX5_digit.cls ≠ "java/lang/invoke/VarHandle" ∧ (parseMethodDescriptor yX5_digit.desc).map (fun d => d.parameters.length) = some 0 := by decide +kernel
theorem yd_X5_number : yX5_number.cls ≠ "java/lang/invoke/MethodHandle" ∧ yX5_number.cls ≠ "java/lang/invoke/VarHandle" ∧ (parseMethodDescriptor yX5_number.desc).map (fun d => d.parameters.length) = some 0 := by decide +kernel
theorem yd_X5_definition : yX5_definition.cls ≠ "java/lang/invoke/MethodHandle" ∧ yX5_definition.cls ≠ "java/lang/invoke/VarHandle" ∧ (parseMethodDescriptor yX5_definition.desc).map (fun d => d.parameters.length) = some 1 := by decide +kernel
theorem yd_X5_run : yX5_run.cls ≠ "java/lang/invoke/MethodHandle" ∧ yX5_run.cls ≠ "java/lang/invoke/VarHandle" ∧ (parseMethodDescriptor yX5_run.desc).map (fun d => d.parameters.length) = some 0 := by decide +kernel
theorem yd_X5_faultPosition : yX5_faultPosition.cls ≠ "java/lang/invoke/MethodHandle" ∧ yX5_faultPosition.cls ≠ "java/lang/invoke/VarHandle" ∧ (parseMethodDescriptor yX5_faultPosition.desc).map (fun d => d.parameters.length) = some 0 := by decide +kernel
theorem yd_X5_refusal : yX5_refusal.cls ≠ "java/lang/invoke/MethodHandle" ∧ yX5_refusal.cls ≠ "java/lang/invoke/VarHandle" ∧ (parseMethodDescriptor yX5_refusal.desc).map (fun d => d.parameters.length) = some 0 := by decide +kernel
theorem yd_X5_pipe : yX5_pipe.cls ≠ "java/lang/invoke/MethodHandle" ∧ yX5_pipe.cls ≠ "java/lang/invoke/VarHandle" ∧ (parseMethodDescriptor yX5_pipe.desc).map (fun d => d.parameters.length) = some 2 := by decide +kernel
theorem yd_X5_station : yX5_station.cls ≠ "java/lang/invoke/MethodHandle" ∧ yX5_station.cls ≠ "java/lang/invoke/VarHandle" ∧ (parseMethodDescriptor yX5_station.desc).map (fun d => d.parameters.length) = some 2 := by decide +kernel
theorem yd_X5_meter : yX5_meter.cls ≠ "java/lang/invoke/MethodHandle" ∧ yX5_meter.cls ≠ "java/lang/invoke/VarHandle" ∧ (parseMethodDescriptor yX5_meter.desc).map (fun d => d.parameters.length) = some 2 := by decide +kernel
theorem yd_X5_flow : yX5_flow.cls ≠ "java/lang/invoke/MethodHandle" ∧ yX5_flow.cls ≠ "java/lang/invoke/VarHandle" ∧ (parseMethodDescriptor yX5_flow.desc).map (fun d => d.parameters.length) = some 1 := by decide +kernel
theorem yd_X5_direction : yX5_direction.cls ≠ "java/lang/invoke/MethodHandle" ∧ yX5_direction.cls ≠ "java/lang/invoke/VarHandle" ∧ (parseMethodDescriptor yX5_direction.desc).map (fun d => d.parameters.length) = some 1 := by decide +kernel
theorem yd_X5_temperature : yX5_temperature.cls ≠ "java/lang/invoke/MethodHandle" ∧ yX5_temperature.cls ≠ "java/lang/invoke/VarHandle" ∧ (parseMethodDescriptor yX5_temperature.desc).map (fun d => d.parameters.length) = some 2 := by decide +kernel
theorem yd_X5_loss : yX5_loss.cls ≠ "java/lang/invoke/MethodHandle" ∧ yX5_loss.cls ≠ "java/lang/invoke/VarHandle" ∧ (parseMethodDescriptor yX5_loss.desc).map (fun d => d.parameters.length) = some 1 := by decide +kernel
theorem yd_X5_rounding : yX5_rounding.cls ≠ "java/lang/invoke/MethodHandle" ∧ yX5_rounding.cls ≠ "java/lang/invoke/VarHandle" ∧ (parseMethodDescriptor yX5_rounding.desc).map (fun d => d.parameters.length) = some 1 := by decide +kernel
theorem yd_X5_isJoined : yX5_isJoined.cls ≠ "java/lang/invoke/MethodHandle" ∧ yX5_isJoined.cls ≠ "java/lang/invoke/VarHandle" ∧ (parseMethodDescriptor yX5_isJoined.desc).map (fun d => d.parameters.length) = some 1 := by decide +kernel
theorem yd_X5_head : yX5_head.cls ≠ "java/lang/invoke/MethodHandle" ∧ yX5_head.cls ≠ "java/lang/invoke/VarHandle" ∧ (parseMethodDescriptor yX5_head.desc).map (fun d => d.parameters.length) = some 1 := by decide +kernel
theorem yd_X5_neededHead : yX5_neededHead.cls ≠ "java/lang/invoke/MethodHandle" ∧ yX5_neededHead.cls ≠ "java/lang/invoke/VarHandle" ∧ (parseMethodDescriptor yX5_neededHead.desc).map (fun d => d.parameters.length) = some 0 := by decide +kernel
theorem yd_X5_imbalance : yX5_imbalance.cls ≠ "java/lang/invoke/MethodHandle" ∧ yX5_imbalance.cls ≠ "java/lang/invoke/VarHandle" ∧ (parseMethodDescriptor yX5_imbalance.desc).map (fun d => d.parameters.length) = some 0 := by decide +kernel
theorem yd_X5_rounds : yX5_rounds.cls ≠ "java/lang/invoke/MethodHandle" ∧ yX5_rounds.cls ≠ "java/lang/invoke/VarHandle" ∧ (parseMethodDescriptor yX5_rounds.desc).map (fun d => d.parameters.length) = some 0 := by decide +kernel
theorem yd_X5_loop : yX5_loop.cls ≠ "java/lang/invoke/MethodHandle" ∧ yX5_loop.cls ≠ "java/lang/invoke/VarHandle" ∧ (parseMethodDescriptor yX5_loop.desc).map (fun d => d.parameters.length) = some 1 := by decide +kernel
theorem yd_X5_distance : yX5_distance.cls ≠ "java/lang/invoke/MethodHandle" ∧ yX5_distance.cls ≠ "java/lang/invoke/VarHandle" ∧ (parseMethodDescriptor yX5_distance.desc).map (fun d => d.parameters.length) = some 1 := by decide +kernel
theorem yd_X5_part : yX5_part.cls ≠ "java/lang/invoke/MethodHandle" ∧ yX5_part.cls ≠ "java/lang/invoke/VarHandle" ∧ (parseMethodDescriptor yX5_part.desc).map (fun d => d.parameters.length) = some 1 := by decide +kernel
theorem yd_X5_isConnected : yX5_isConnected.cls ≠ "java/lang/invoke/MethodHandle" ∧ yX5_isConnected.cls ≠ "java/lang/invoke/VarHandle" ∧ (parseMethodDescriptor yX5_isConnected.desc).map (fun d => d.parameters.length) = some 1 := by decide +kernel
theorem yd_X5_suspect : yX5_suspect.cls ≠ "java/lang/invoke/MethodHandle" ∧ yX5_suspect.cls ≠ "java/lang/invoke/VarHandle" ∧ (parseMethodDescriptor yX5_suspect.desc).map (fun d => d.parameters.length) = some 0 := by decide +kernel
theorem yd_X5_trial : yX5_trial.cls ≠ "java/lang/invoke/MethodHandle" ∧ yX5_trial.cls ≠ "java/lang/invoke/VarHandle" ∧ (parseMethodDescriptor yX5_trial.desc).map (fun d => d.parameters.length) = some 2 := by decide +kernel
theorem yd_X5_bestReturn : yX5_bestReturn.cls ≠ "java/lang/invoke/MethodHandle" ∧ yX5_bestReturn.cls ≠ "java/lang/invoke/VarHandle" ∧ (parseMethodDescriptor yX5_bestReturn.desc).map (fun d => d.parameters.length) = some 1 := by decide +kernel
theorem yd_X5_account : yX5_account.cls ≠ "java/lang/invoke/MethodHandle" ∧ yX5_account.cls ≠ "java/lang/invoke/VarHandle" ∧ (parseMethodDescriptor yX5_account.desc).map (fun d => d.parameters.length) = some 1 := by decide +kernel
theorem yd_X5_efficiency : yX5_efficiency.cls ≠ "java/lang/invoke/MethodHandle" ∧ yX5_efficiency.cls ≠ "java/lang/invoke/VarHandle" ∧ (parseMethodDescriptor yX5_efficiency.desc).map (fun d => d.parameters.length) = some 0 := by decide +kernel
theorem yd_X5_returnDegrees : yX5_returnDegrees.cls ≠ "java/lang/invoke/MethodHandle" ∧ yX5_returnDegrees.cls ≠ "java/lang/invoke/VarHandle" ∧ (parseMethodDescriptor yX5_returnDegrees.desc).map (fun d => d.parameters.length) = some 0 := by decide +kernel
theorem yd_X5_count : yX5_count.cls ≠ "java/lang/invoke/MethodHandle" ∧ yX5_count.cls ≠ "java/lang/invoke/VarHandle" ∧ (parseMethodDescriptor yX5_count.desc).map (fun d => d.parameters.length) = some 1 := by decide +kernel
theorem yd_X5_undo : yX5_undo.cls ≠ "java/lang/invoke/MethodHandle" ∧ yX5_undo.cls ≠ "java/lang/invoke/VarHandle" ∧ (parseMethodDescriptor yX5_undo.desc).map (fun d => d.parameters.length) = some 0 := by decide +kernel
theorem yd_X5_save : yX5_save.cls ≠ "java/lang/invoke/MethodHandle" ∧ yX5_save.cls ≠ "java/lang/invoke/VarHandle" ∧ (parseMethodDescriptor yX5_save.desc).map (fun d => d.parameters.length) = some 0 := by decide +kernel
theorem yd_X5_restore : yX5_restore.cls ≠ "java/lang/invoke/MethodHandle" ∧ yX5_restore.cls ≠ "java/lang/invoke/VarHandle" ∧ (parseMethodDescriptor yX5_restore.desc).map (fun d => d.parameters.length) = some 0 := by decide +kernel
theorem yd_J6_bitCount_0f7a4 : yJ6_bitCount_0f7a4.cls ≠ "java/lang/invoke/MethodHandle" ∧ yJ6_bitCount_0f7a4.cls ≠ "java/lang/invoke/VarHandle" ∧ (parseMethodDescriptor yJ6_bitCount_0f7a4.desc).map (fun d => d.parameters.length) = some 1 := by decide +kernel
theorem yd_J9_floorDiv_7cf53 : yJ9_floorDiv_7cf53.cls ≠ "java/lang/invoke/MethodHandle" ∧ yJ9_floorDiv_7cf53.cls ≠ "java/lang/invoke/VarHandle" ∧ (parseMethodDescriptor yJ9_floorDiv_7cf53.desc).map (fun d => d.parameters.length) = some 2 := by decide +kernel
theorem yd_J9_floorDiv_f86c9 : yJ9_floorDiv_f86c9.cls ≠ "java/lang/invoke/MethodHandle" ∧ yJ9_floorDiv_f86c9.cls ≠ "java/lang/invoke/VarHandle" ∧ (parseMethodDescriptor yJ9_floorDiv_f86c9.desc).map (fun d => d.parameters.length) = some 2 := by decide +kernel
theorem yd_J9_floorMod_f86c9 : yJ9_floorMod_f86c9.cls ≠ "java/lang/invoke/MethodHandle" ∧ yJ9_floorMod_f86c9.cls ≠ "java/lang/invoke/VarHandle" ∧ (parseMethodDescriptor yJ9_floorMod_f86c9.desc).map (fun d => d.parameters.length) = some 2 := by decide +kernel
theorem yd_J9_abs_0f7a4 : yJ9_abs_0f7a4.cls ≠ "java/lang/invoke/MethodHandle" ∧ yJ9_abs_0f7a4.cls ≠ "java/lang/invoke/VarHandle" ∧ (parseMethodDescriptor yJ9_abs_0f7a4.desc).map (fun d => d.parameters.length) = some 1 := by decide +kernel
theorem yd_J9_abs_067f4 : yJ9_abs_067f4.cls ≠ "java/lang/invoke/MethodHandle" ∧ yJ9_abs_067f4.cls ≠ "java/lang/invoke/VarHandle" ∧ (parseMethodDescriptor yJ9_abs_067f4.desc).map (fun d => d.parameters.length) = some 1 := by decide +kernel
theorem yd_J9_max_7cf53 : yJ9_max_7cf53.cls ≠ "java/lang/invoke/MethodHandle" ∧ yJ9_max_7cf53.cls ≠ "java/lang/invoke/VarHandle" ∧ (parseMethodDescriptor yJ9_max_7cf53.desc).map (fun d => d.parameters.length) = some 2 := by decide +kernel
theorem yd_J9_max_f86c9 : yJ9_max_f86c9.cls ≠ "java/lang/invoke/MethodHandle" ∧ yJ9_max_f86c9.cls ≠ "java/lang/invoke/VarHandle" ∧ (parseMethodDescriptor yJ9_max_f86c9.desc).map (fun d => d.parameters.length) = some 2 := by decide +kernel
theorem yd_J9_min_7cf53 : yJ9_min_7cf53.cls ≠ "java/lang/invoke/MethodHandle" ∧ yJ9_min_7cf53.cls ≠ "java/lang/invoke/VarHandle" ∧ (parseMethodDescriptor yJ9_min_7cf53.desc).map (fun d => d.parameters.length) = some 2 := by decide +kernel
theorem yd_J7_fill_d0a16 : yJ7_fill_d0a16.cls ≠ "java/lang/invoke/MethodHandle" ∧ yJ7_fill_d0a16.cls ≠ "java/lang/invoke/VarHandle" ∧ (parseMethodDescriptor yJ7_fill_d0a16.desc).map (fun d => d.parameters.length) = some 2 := by decide +kernel
theorem yd_J7_fill_53178 : yJ7_fill_53178.cls ≠ "java/lang/invoke/MethodHandle" ∧ yJ7_fill_53178.cls ≠ "java/lang/invoke/VarHandle" ∧ (parseMethodDescriptor yJ7_fill_53178.desc).map (fun d => d.parameters.length) = some 2 := by decide +kernel
theorem yd_L_setSetting : yL_setSetting.cls ≠ "java/lang/invoke/MethodHandle" ∧ yL_setSetting.cls ≠ "java/lang/invoke/VarHandle" ∧ (parseMethodDescriptor yL_setSetting.desc).map (fun d => d.parameters.length) = some 4 := by decide +kernel
theorem yd_L_setting : yL_setting.cls ≠ "java/lang/invoke/MethodHandle" ∧ yL_setting.cls ≠ "java/lang/invoke/VarHandle" ∧ (parseMethodDescriptor yL_setting.desc).map (fun d => d.parameters.length) = some 3 := by decide +kernel
theorem yd_L_addPipe : yL_addPipe.cls ≠ "java/lang/invoke/MethodHandle" ∧ yL_addPipe.cls ≠ "java/lang/invoke/VarHandle" ∧ (parseMethodDescriptor yL_addPipe.desc).map (fun d => d.parameters.length) = some 6 := by decide +kernel
theorem yd_L_removePipe : yL_removePipe.cls ≠ "java/lang/invoke/MethodHandle" ∧ yL_removePipe.cls ≠ "java/lang/invoke/VarHandle" ∧ (parseMethodDescriptor yL_removePipe.desc).map (fun d => d.parameters.length) = some 3 := by decide +kernel
theorem yd_L_addStation : yL_addStation.cls ≠ "java/lang/invoke/MethodHandle" ∧ yL_addStation.cls ≠ "java/lang/invoke/VarHandle" ∧ (parseMethodDescriptor yL_addStation.desc).map (fun d => d.parameters.length) = some 6 := by decide +kernel
theorem yd_L_removeStation : yL_removeStation.cls ≠ "java/lang/invoke/MethodHandle" ∧ yL_removeStation.cls ≠ "java/lang/invoke/VarHandle" ∧ (parseMethodDescriptor yL_removeStation.desc).map (fun d => d.parameters.length) = some 3 := by decide +kernel
theorem yd_L_setReturn : yL_setReturn.cls ≠ "java/lang/invoke/MethodHandle" ∧ yL_setReturn.cls ≠ "java/lang/invoke/VarHandle" ∧ (parseMethodDescriptor yL_setReturn.desc).map (fun d => d.parameters.length) = some 4 := by decide +kernel
theorem yd_L_setMeter : yL_setMeter.cls ≠ "java/lang/invoke/MethodHandle" ∧ yL_setMeter.cls ≠ "java/lang/invoke/VarHandle" ∧ (parseMethodDescriptor yL_setMeter.desc).map (fun d => d.parameters.length) = some 5 := by decide +kernel
theorem yd_L_hours : yL_hours.cls ≠ "java/lang/invoke/MethodHandle" ∧ yL_hours.cls ≠ "java/lang/invoke/VarHandle" ∧ (parseMethodDescriptor yL_hours.desc).map (fun d => d.parameters.length) = some 3 := by decide +kernel
theorem yd_L_append : yL_append.cls ≠ "java/lang/invoke/MethodHandle" ∧ yL_append.cls ≠ "java/lang/invoke/VarHandle" ∧ (parseMethodDescriptor yL_append.desc).map (fun d => d.parameters.length) = some 3 := by decide +kernel
theorem yd_L_run : yL_run.cls ≠ "java/lang/invoke/MethodHandle" ∧ yL_run.cls ≠ "java/lang/invoke/VarHandle" ∧ (parseMethodDescriptor yL_run.desc).map (fun d => d.parameters.length) = some 2 := by decide +kernel
theorem yd_L_refusal : yL_refusal.cls ≠ "java/lang/invoke/MethodHandle" ∧ yL_refusal.cls ≠ "java/lang/invoke/VarHandle" ∧ (parseMethodDescriptor yL_refusal.desc).map (fun d => d.parameters.length) = some 2 := by decide +kernel
theorem yd_L_pipe : yL_pipe.cls ≠ "java/lang/invoke/MethodHandle" ∧ yL_pipe.cls ≠ "java/lang/invoke/VarHandle" ∧ (parseMethodDescriptor yL_pipe.desc).map (fun d => d.parameters.length) = some 4 := by decide +kernel
theorem yd_L_station : yL_station.cls ≠ "java/lang/invoke/MethodHandle" ∧ yL_station.cls ≠ "java/lang/invoke/VarHandle" ∧ (parseMethodDescriptor yL_station.desc).map (fun d => d.parameters.length) = some 4 := by decide +kernel
theorem yd_L_meter : yL_meter.cls ≠ "java/lang/invoke/MethodHandle" ∧ yL_meter.cls ≠ "java/lang/invoke/VarHandle" ∧ (parseMethodDescriptor yL_meter.desc).map (fun d => d.parameters.length) = some 4 := by decide +kernel
theorem yd_L_flow : yL_flow.cls ≠ "java/lang/invoke/MethodHandle" ∧ yL_flow.cls ≠ "java/lang/invoke/VarHandle" ∧ (parseMethodDescriptor yL_flow.desc).map (fun d => d.parameters.length) = some 3 := by decide +kernel
theorem yd_L_direction : yL_direction.cls ≠ "java/lang/invoke/MethodHandle" ∧ yL_direction.cls ≠ "java/lang/invoke/VarHandle" ∧ (parseMethodDescriptor yL_direction.desc).map (fun d => d.parameters.length) = some 3 := by decide +kernel
theorem yd_L_temperature : yL_temperature.cls ≠ "java/lang/invoke/MethodHandle" ∧ yL_temperature.cls ≠ "java/lang/invoke/VarHandle" ∧ (parseMethodDescriptor yL_temperature.desc).map (fun d => d.parameters.length) = some 4 := by decide +kernel
theorem yd_L_loss : yL_loss.cls ≠ "java/lang/invoke/MethodHandle" ∧ yL_loss.cls ≠ "java/lang/invoke/VarHandle" ∧ (parseMethodDescriptor yL_loss.desc).map (fun d => d.parameters.length) = some 3 := by decide +kernel
theorem yd_L_rounding : yL_rounding.cls ≠ "java/lang/invoke/MethodHandle" ∧ yL_rounding.cls ≠ "java/lang/invoke/VarHandle" ∧ (parseMethodDescriptor yL_rounding.desc).map (fun d => d.parameters.length) = some 3 := by decide +kernel
theorem yd_L_head : yL_head.cls ≠ "java/lang/invoke/MethodHandle" ∧ yL_head.cls ≠ "java/lang/invoke/VarHandle" ∧ (parseMethodDescriptor yL_head.desc).map (fun d => d.parameters.length) = some 3 := by decide +kernel
theorem yd_L_imbalance : yL_imbalance.cls ≠ "java/lang/invoke/MethodHandle" ∧ yL_imbalance.cls ≠ "java/lang/invoke/VarHandle" ∧ (parseMethodDescriptor yL_imbalance.desc).map (fun d => d.parameters.length) = some 2 := by decide +kernel
theorem yd_L_loop : yL_loop.cls ≠ "java/lang/invoke/MethodHandle" ∧ yL_loop.cls ≠ "java/lang/invoke/VarHandle" ∧ (parseMethodDescriptor yL_loop.desc).map (fun d => d.parameters.length) = some 3 := by decide +kernel
theorem yd_L_distance : yL_distance.cls ≠ "java/lang/invoke/MethodHandle" ∧ yL_distance.cls ≠ "java/lang/invoke/VarHandle" ∧ (parseMethodDescriptor yL_distance.desc).map (fun d => d.parameters.length) = some 3 := by decide +kernel
theorem yd_L_part : yL_part.cls ≠ "java/lang/invoke/MethodHandle" ∧ yL_part.cls ≠ "java/lang/invoke/VarHandle" ∧ (parseMethodDescriptor yL_part.desc).map (fun d => d.parameters.length) = some 3 := by decide +kernel
theorem yd_L_isConnected : yL_isConnected.cls ≠ "java/lang/invoke/MethodHandle" ∧ yL_isConnected.cls ≠ "java/lang/invoke/VarHandle" ∧ (parseMethodDescriptor yL_isConnected.desc).map (fun d => d.parameters.length) = some 3 := by decide +kernel
theorem yd_L_suspect : yL_suspect.cls ≠ "java/lang/invoke/MethodHandle" ∧ yL_suspect.cls ≠ "java/lang/invoke/VarHandle" ∧ (parseMethodDescriptor yL_suspect.desc).map (fun d => d.parameters.length) = some 2 := by decide +kernel
theorem yd_L_trial : yL_trial.cls ≠ "java/lang/invoke/MethodHandle" ∧ yL_trial.cls ≠ "java/lang/invoke/VarHandle" ∧ (parseMethodDescriptor yL_trial.desc).map (fun d => d.parameters.length) = some 4 := by decide +kernel
theorem yd_L_bestReturn : yL_bestReturn.cls ≠ "java/lang/invoke/MethodHandle" ∧ yL_bestReturn.cls ≠ "java/lang/invoke/VarHandle" ∧ (parseMethodDescriptor yL_bestReturn.desc).map (fun d => d.parameters.length) = some 3 := by decide +kernel
theorem yd_L_account : yL_account.cls ≠ "java/lang/invoke/MethodHandle" ∧ yL_account.cls ≠ "java/lang/invoke/VarHandle" ∧ (parseMethodDescriptor yL_account.desc).map (fun d => d.parameters.length) = some 3 := by decide +kernel
theorem yd_L_efficiency : yL_efficiency.cls ≠ "java/lang/invoke/MethodHandle" ∧ yL_efficiency.cls ≠ "java/lang/invoke/VarHandle" ∧ (parseMethodDescriptor yL_efficiency.desc).map (fun d => d.parameters.length) = some 2 := by decide +kernel
theorem yd_L_count : yL_count.cls ≠ "java/lang/invoke/MethodHandle" ∧ yL_count.cls ≠ "java/lang/invoke/VarHandle" ∧ (parseMethodDescriptor yL_count.desc).map (fun d => d.parameters.length) = some 3 := by decide +kernel
theorem yd_L_undo : yL_undo.cls ≠ "java/lang/invoke/MethodHandle" ∧ yL_undo.cls ≠ "java/lang/invoke/VarHandle" ∧ (parseMethodDescriptor yL_undo.desc).map (fun d => d.parameters.length) = some 2 := by decide +kernel
theorem yd_L_restore : yL_restore.cls ≠ "java/lang/invoke/MethodHandle" ∧ yL_restore.cls ≠ "java/lang/invoke/VarHandle" ∧ (parseMethodDescriptor yL_restore.desc).map (fun d => d.parameters.length) = some 2 := by decide +kernel
theorem yd_L_law : yL_law.cls ≠ "java/lang/invoke/MethodHandle" ∧ yL_law.cls ≠ "java/lang/invoke/VarHandle" ∧ (parseMethodDescriptor yL_law.desc).map (fun d => d.parameters.length) = some 1 := by decide +kernel
