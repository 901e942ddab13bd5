theorem dL_setSetting_0 : decode cL_setSetting 0 = .ok (.aload_n 3, 1) := by decide +kernel
theorem dL_setSetting_1 : decode cL_setSetting 1 = .ok (.iconst 0, 1) := by decide +kernel
theorem dL_setSetting_2 : decode cL_setSetting 2 = .ok (.aload_n 0, 1) := by decide +kernel
theorem dL_setSetting_3 : decode cL_setSetting 3 = .ok (.iload_n 1, 1) := by decide +kernel
theorem dL_setSetting_4 : decode cL_setSetting 4 = .ok (.iload_n 2, 1) := by decide +kernel
theorem dL_setSetting_5 : decode cL_setSetting 5 = .ok (.invokevirtual 7, 3) := by decide +kernel
theorem dL_setSetting_8 : decode cL_setSetting 8 = .ok (.i2l, 1) := by decide +kernel
theorem dL_setSetting_9 : decode cL_setSetting 9 = .ok (.lastore, 1) := by decide +kernel
theorem dL_setSetting_10 : decode cL_setSetting 10 = .ok (.goto 11, 3) := by decide +kernel
theorem dL_setSetting_13 : decode cL_setSetting 13 = .ok (.astore 4, 2) := by decide +kernel
theorem dL_setSetting_15 : decode cL_setSetting 15 = .ok (.iconst 1, 1) := by decide +kernel
theorem dL_setSetting_16 : decode cL_setSetting 16 = .ok (.ireturn, 1) := by decide +kernel
theorem dL_setSetting_17 : decode cL_setSetting 17 = .ok (.astore 4, 2) := by decide +kernel
theorem dL_setSetting_19 : decode cL_setSetting 19 = .ok (.iconst 2, 1) := by decide +kernel
theorem dL_setSetting_20 : decode cL_setSetting 20 = .ok (.ireturn, 1) := by decide +kernel
theorem dL_setSetting_21 : decode cL_setSetting 21 = .ok (.iconst 0, 1) := by decide +kernel
theorem dL_setSetting_22 : decode cL_setSetting 22 = .ok (.ireturn, 1) := by decide +kernel
theorem dL_setting_0 : decode cL_setting 0 = .ok (.aload_n 2, 1) := by decide +kernel
theorem dL_setting_1 : decode cL_setting 1 = .ok (.iconst 0, 1) := by decide +kernel
theorem dL_setting_2 : decode cL_setting 2 = .ok (.aload_n 0, 1) := by decide +kernel
theorem dL_setting_3 : decode cL_setting 3 = .ok (.iload_n 1, 1) := by decide +kernel
theorem dL_setting_4 : decode cL_setting 4 = .ok (.invokevirtual 17, 3) := by decide +kernel
theorem dL_setting_7 : decode cL_setting 7 = .ok (.i2l, 1) := by decide +kernel
theorem dL_setting_8 : decode cL_setting 8 = .ok (.lastore, 1) := by decide +kernel
theorem dL_setting_9 : decode cL_setting 9 = .ok (.goto 6, 3) := by decide +kernel
theorem dL_setting_12 : decode cL_setting 12 = .ok (.astore_n 3, 1) := by decide +kernel
theorem dL_setting_13 : decode cL_setting 13 = .ok (.iconst 1, 1) := by decide +kernel
theorem dL_setting_14 : decode cL_setting 14 = .ok (.ireturn, 1) := by decide +kernel
theorem dL_setting_15 : decode cL_setting 15 = .ok (.iconst 0, 1) := by decide +kernel
theorem dL_setting_16 : decode cL_setting 16 = .ok (.ireturn, 1) := by decide +kernel
theorem dL_addPipe_0 : decode cL_addPipe 0 = .ok (.aload 5, 2) := by decide +kernel
theorem dL_addPipe_2 : decode cL_addPipe 2 = .ok (.iconst 0, 1) := by decide +kernel
theorem dL_addPipe_3 : decode cL_addPipe 3 = .ok (.aload_n 0, 1) := by decide +kernel
theorem dL_addPipe_4 : decode cL_addPipe 4 = .ok (.iload_n 1, 1) := by decide +kernel
theorem dL_addPipe_5 : decode cL_addPipe 5 = .ok (.iload_n 2, 1) := by decide +kernel
theorem dL_addPipe_6 : decode cL_addPipe 6 = .ok (.iload_n 3, 1) := by decide +kernel
theorem dL_addPipe_7 : decode cL_addPipe 7 = .ok (.iload 4, 2) := by decide +kernel
theorem dL_addPipe_9 : decode cL_addPipe 9 = .ok (.invokevirtual 21, 3) := by decide +kernel
theorem dL_addPipe_12 : decode cL_addPipe 12 = .ok (.i2l, 1) := by decide +kernel
theorem dL_addPipe_13 : decode cL_addPipe 13 = .ok (.lastore, 1) := by decide +kernel
theorem dL_addPipe_14 : decode cL_addPipe 14 = .ok (.goto 7, 3) := by decide +kernel
theorem dL_addPipe_17 : decode cL_addPipe 17 = .ok (.astore 6, 2) := by decide +kernel
theorem dL_addPipe_19 : decode cL_addPipe 19 = .ok (.iconst 1, 1) := by decide +kernel
theorem dL_addPipe_20 : decode cL_addPipe 20 = .ok (.ireturn, 1) := by decide +kernel
theorem dL_addPipe_21 : decode cL_addPipe 21 = .ok (.iconst 0, 1) := by decide +kernel
theorem dL_addPipe_22 : decode cL_addPipe 22 = .ok (.ireturn, 1) := by decide +kernel
theorem dL_removePipe_0 : decode cL_removePipe 0 = .ok (.aload_n 2, 1) := by decide +kernel
theorem dL_removePipe_1 : decode cL_removePipe 1 = .ok (.iconst 0, 1) := by decide +kernel
theorem dL_removePipe_2 : decode cL_removePipe 2 = .ok (.aload_n 0, 1) := by decide +kernel
theorem dL_removePipe_3 : decode cL_removePipe 3 = .ok (.iload_n 1, 1) := by decide +kernel
theorem dL_removePipe_4 : decode cL_removePipe 4 = .ok (.invokevirtual 27, 3) := by decide +kernel
theorem dL_removePipe_7 : decode cL_removePipe 7 = .ok (.i2l, 1) := by decide +kernel
theorem dL_removePipe_8 : decode cL_removePipe 8 = .ok (.lastore, 1) := by decide +kernel
theorem dL_removePipe_9 : decode cL_removePipe 9 = .ok (.goto 6, 3) := by decide +kernel
theorem dL_removePipe_12 : decode cL_removePipe 12 = .ok (.astore_n 3, 1) := by decide +kernel
theorem dL_removePipe_13 : decode cL_removePipe 13 = .ok (.iconst 1, 1) := by decide +kernel
theorem dL_removePipe_14 : decode cL_removePipe 14 = .ok (.ireturn, 1) := by decide +kernel
theorem dL_removePipe_15 : decode cL_removePipe 15 = .ok (.iconst 0, 1) := by decide +kernel
theorem dL_removePipe_16 : decode cL_removePipe 16 = .ok (.ireturn, 1) := by decide +kernel
theorem dL_addStation_0 : decode cL_addStation 0 = .ok (.aload 5, 2) := by decide +kernel
theorem dL_addStation_2 : decode cL_addStation 2 = .ok (.iconst 0, 1) := by decide +kernel
theorem dL_addStation_3 : decode cL_addStation 3 = .ok (.aload_n 0, 1) := by decide +kernel
theorem dL_addStation_4 : decode cL_addStation 4 = .ok (.iload_n 1, 1) := by decide +kernel
theorem dL_addStation_5 : decode cL_addStation 5 = .ok (.iload_n 2, 1) := by decide +kernel
theorem dL_addStation_6 : decode cL_addStation 6 = .ok (.iload_n 3, 1) := by decide +kernel
theorem dL_addStation_7 : decode cL_addStation 7 = .ok (.iload 4, 2) := by decide +kernel
theorem dL_addStation_9 : decode cL_addStation 9 = .ok (.invokevirtual 30, 3) := by decide +kernel
theorem dL_addStation_12 : decode cL_addStation 12 = .ok (.i2l, 1) := by decide +kernel
theorem dL_addStation_13 : decode cL_addStation 13 = .ok (.lastore, 1) := by decide +kernel
theorem dL_addStation_14 : decode cL_addStation 14 = .ok (.goto 7, 3) := by decide +kernel
theorem dL_addStation_17 : decode cL_addStation 17 = .ok (.astore 6, 2) := by decide +kernel
theorem dL_addStation_19 : decode cL_addStation 19 = .ok (.iconst 1, 1) := by decide +kernel
theorem dL_addStation_20 : decode cL_addStation 20 = .ok (.ireturn, 1) := by decide +kernel
theorem dL_addStation_21 : decode cL_addStation 21 = .ok (.iconst 0, 1) := by decide +kernel
theorem dL_addStation_22 : decode cL_addStation 22 = .ok (.ireturn, 1) := by decide +kernel
theorem dL_removeStation_0 : decode cL_removeStation 0 = .ok (.aload_n 2, 1) := by decide +kernel
theorem dL_removeStation_1 : decode cL_removeStation 1 = .ok (.iconst 0, 1) := by decide +kernel
theorem dL_removeStation_2 : decode cL_removeStation 2 = .ok (.aload_n 0, 1) := by decide +kernel
theorem dL_removeStation_3 : decode cL_removeStation 3 = .ok (.iload_n 1, 1) := by decide +kernel
theorem dL_removeStation_4 : decode cL_removeStation 4 = .ok (.invokevirtual 33, 3) := by decide +kernel
theorem dL_removeStation_7 : decode cL_removeStation 7 = .ok (.i2l, 1) := by decide +kernel
theorem dL_removeStation_8 : decode cL_removeStation 8 = .ok (.lastore, 1) := by decide +kernel
theorem dL_removeStation_9 : decode cL_removeStation 9 = .ok (.goto 6, 3) := by decide +kernel
theorem dL_removeStation_12 : decode cL_removeStation 12 = .ok (.astore_n 3, 1) := by decide +kernel
theorem dL_removeStation_13 : decode cL_removeStation 13 = .ok (.iconst 1, 1) := by decide +kernel
theorem dL_removeStation_14 : decode cL_removeStation 14 = .ok (.ireturn, 1) := by decide +kernel
theorem dL_removeStation_15 : decode cL_removeStation 15 = .ok (.iconst 0, 1) := by decide +kernel
theorem dL_removeStation_16 : decode cL_removeStation 16 = .ok (.ireturn, 1) := by decide +kernel
theorem dL_setReturn_0 : decode cL_setReturn 0 = .ok (.aload_n 3, 1) := by decide +kernel
theorem dL_setReturn_1 : decode cL_setReturn 1 = .ok (.iconst 0, 1) := by decide +kernel
theorem dL_setReturn_2 : decode cL_setReturn 2 = .ok (.aload_n 0, 1) := by decide +kernel
theorem dL_setReturn_3 : decode cL_setReturn 3 = .ok (.iload_n 1, 1) := by decide +kernel
theorem dL_setReturn_4 : decode cL_setReturn 4 = .ok (.iload_n 2, 1) := by decide +kernel
theorem dL_setReturn_5 : decode cL_setReturn 5 = .ok (.invokevirtual 36, 3) := by decide +kernel
theorem dL_setReturn_8 : decode cL_setReturn 8 = .ok (.i2l, 1) := by decide +kernel
theorem dL_setReturn_9 : decode cL_setReturn 9 = .ok (.lastore, 1) := by decide +kernel
theorem dL_setReturn_10 : decode cL_setReturn 10 = .ok (.goto 11, 3) := by decide +kernel
theorem dL_setReturn_13 : decode cL_setReturn 13 = .ok (.astore 4, 2) := by decide +kernel
theorem dL_setReturn_15 : decode cL_setReturn 15 = .ok (.iconst 1, 1) := by decide +kernel
theorem dL_setReturn_16 : decode cL_setReturn 16 = .ok (.ireturn, 1) := by decide +kernel
theorem dL_setReturn_17 : decode cL_setReturn 17 = .ok (.astore 4, 2) := by decide +kernel
theorem dL_setReturn_19 : decode cL_setReturn 19 = .ok (.iconst 2, 1) := by decide +kernel
theorem dL_setReturn_20 : decode cL_setReturn 20 = .ok (.ireturn, 1) := by decide +kernel
theorem dL_setReturn_21 : decode cL_setReturn 21 = .ok (.iconst 0, 1) := by decide +kernel
theorem dL_setReturn_22 : decode cL_setReturn 22 = .ok (.ireturn, 1) := by decide +kernel
theorem dL_setMeter_0 : decode cL_setMeter 0 = .ok (.aload 4, 2) := by decide +kernel
theorem dL_setMeter_2 : decode cL_setMeter 2 = .ok (.iconst 0, 1) := by decide +kernel
theorem dL_setMeter_3 : decode cL_setMeter 3 = .ok (.aload_n 0, 1) := by decide +kernel
theorem dL_setMeter_4 : decode cL_setMeter 4 = .ok (.iload_n 1, 1) := by decide +kernel
theorem dL_setMeter_5 : decode cL_setMeter 5 = .ok (.iload_n 2, 1) := by decide +kernel
theorem dL_setMeter_6 : decode cL_setMeter 6 = .ok (.iload_n 3, 1) := by decide +kernel
theorem dL_setMeter_7 : decode cL_setMeter 7 = .ok (.invokevirtual 41, 3) := by decide +kernel
theorem dL_setMeter_10 : decode cL_setMeter 10 = .ok (.i2l, 1) := by decide +kernel
theorem dL_setMeter_11 : decode cL_setMeter 11 = .ok (.lastore, 1) := by decide +kernel
theorem dL_setMeter_12 : decode cL_setMeter 12 = .ok (.goto 11, 3) := by decide +kernel
theorem dL_setMeter_15 : decode cL_setMeter 15 = .ok (.astore 5, 2) := by decide +kernel
theorem dL_setMeter_17 : decode cL_setMeter 17 = .ok (.iconst 1, 1) := by decide +kernel
theorem dL_setMeter_18 : decode cL_setMeter 18 = .ok (.ireturn, 1) := by decide +kernel
theorem dL_setMeter_19 : decode cL_setMeter 19 = .ok (.astore 5, 2) := by decide +kernel
theorem dL_setMeter_21 : decode cL_setMeter 21 = .ok (.iconst 2, 1) := by decide +kernel
theorem dL_setMeter_22 : decode cL_setMeter 22 = .ok (.ireturn, 1) := by decide +kernel
theorem dL_setMeter_23 : decode cL_setMeter 23 = .ok (.iconst 0, 1) := by decide +kernel
theorem dL_setMeter_24 : decode cL_setMeter 24 = .ok (.ireturn, 1) := by decide +kernel
theorem dL_hours_0 : decode cL_hours 0 = .ok (.aload_n 2, 1) := by decide +kernel
theorem dL_hours_1 : decode cL_hours 1 = .ok (.iconst 0, 1) := by decide +kernel
theorem dL_hours_2 : decode cL_hours 2 = .ok (.aload_n 0, 1) := by decide +kernel
theorem dL_hours_3 : decode cL_hours 3 = .ok (.iload_n 1, 1) := by decide +kernel
theorem dL_hours_4 : decode cL_hours 4 = .ok (.invokevirtual 45, 3) := by decide +kernel
theorem dL_hours_7 : decode cL_hours 7 = .ok (.lastore, 1) := by decide +kernel
theorem dL_hours_8 : decode cL_hours 8 = .ok (.goto 9, 3) := by decide +kernel
theorem dL_hours_11 : decode cL_hours 11 = .ok (.astore_n 3, 1) := by decide +kernel
theorem dL_hours_12 : decode cL_hours 12 = .ok (.iconst 1, 1) := by decide +kernel
theorem dL_hours_13 : decode cL_hours 13 = .ok (.ireturn, 1) := by decide +kernel
theorem dL_hours_14 : decode cL_hours 14 = .ok (.astore_n 3, 1) := by decide +kernel
theorem dL_hours_15 : decode cL_hours 15 = .ok (.iconst 2, 1) := by decide +kernel
theorem dL_hours_16 : decode cL_hours 16 = .ok (.ireturn, 1) := by decide +kernel
theorem dL_hours_17 : decode cL_hours 17 = .ok (.iconst 0, 1) := by decide +kernel
theorem dL_hours_18 : decode cL_hours 18 = .ok (.ireturn, 1) := by decide +kernel
theorem dL_append_0 : decode cL_append 0 = .ok (.aload_n 2, 1) := by decide +kernel
theorem dL_append_1 : decode cL_append 1 = .ok (.iconst 0, 1) := by decide +kernel
theorem dL_append_2 : decode cL_append 2 = .ok (.aload_n 0, 1) := by decide +kernel
theorem dL_append_3 : decode cL_append 3 = .ok (.iload_n 1, 1) := by decide +kernel
theorem dL_append_4 : decode cL_append 4 = .ok (.invokevirtual 49, 3) := by decide +kernel
theorem dL_append_7 : decode cL_append 7 = .ok (.i2l, 1) := by decide +kernel
theorem dL_append_8 : decode cL_append 8 = .ok (.lastore, 1) := by decide +kernel
theorem dL_append_9 : decode cL_append 9 = .ok (.goto 9, 3) := by decide +kernel
theorem dL_append_12 : decode cL_append 12 = .ok (.astore_n 3, 1) := by decide +kernel
theorem dL_append_13 : decode cL_append 13 = .ok (.iconst 1, 1) := by decide +kernel
theorem dL_append_14 : decode cL_append 14 = .ok (.ireturn, 1) := by decide +kernel
theorem dL_append_15 : decode cL_append 15 = .ok (.astore_n 3, 1) := by decide +kernel
theorem dL_append_16 : decode cL_append 16 = .ok (.iconst 2, 1) := by decide +kernel
theorem dL_append_17 : decode cL_append 17 = .ok (.ireturn, 1) := by decide +kernel
theorem dL_append_18 : decode cL_append 18 = .ok (.iconst 0, 1) := by decide +kernel
theorem dL_append_19 : decode cL_append 19 = .ok (.ireturn, 1) := by decide +kernel
theorem dL_run_0 : decode cL_run 0 = .ok (.aload_n 1, 1) := by decide +kernel
theorem dL_run_1 : decode cL_run 1 = .ok (.iconst 0, 1) := by decide +kernel
theorem dL_run_2 : decode cL_run 2 = .ok (.aload_n 0, 1) := by decide +kernel
theorem dL_run_3 : decode cL_run 3 = .ok (.invokevirtual 54, 3) := by decide +kernel
theorem dL_run_6 : decode cL_run 6 = .ok (.i2l, 1) := by decide +kernel
theorem dL_run_7 : decode cL_run 7 = .ok (.lastore, 1) := by decide +kernel
theorem dL_run_8 : decode cL_run 8 = .ok (.goto 9, 3) := by decide +kernel
theorem dL_run_11 : decode cL_run 11 = .ok (.astore_n 2, 1) := by decide +kernel
theorem dL_run_12 : decode cL_run 12 = .ok (.iconst 1, 1) := by decide +kernel
theorem dL_run_13 : decode cL_run 13 = .ok (.ireturn, 1) := by decide +kernel
theorem dL_run_14 : decode cL_run 14 = .ok (.astore_n 2, 1) := by decide +kernel
theorem dL_run_15 : decode cL_run 15 = .ok (.iconst 2, 1) := by decide +kernel
theorem dL_run_16 : decode cL_run 16 = .ok (.ireturn, 1) := by decide +kernel
theorem dL_run_17 : decode cL_run 17 = .ok (.iconst 0, 1) := by decide +kernel
theorem dL_run_18 : decode cL_run 18 = .ok (.ireturn, 1) := by decide +kernel
theorem dL_refusal_0 : decode cL_refusal 0 = .ok (.aload_n 1, 1) := by decide +kernel
theorem dL_refusal_1 : decode cL_refusal 1 = .ok (.iconst 0, 1) := by decide +kernel
theorem dL_refusal_2 : decode cL_refusal 2 = .ok (.aload_n 0, 1) := by decide +kernel
theorem dL_refusal_3 : decode cL_refusal 3 = .ok (.invokevirtual 58, 3) := by decide +kernel
theorem dL_refusal_6 : decode cL_refusal 6 = .ok (.i2l, 1) := by decide +kernel
theorem dL_refusal_7 : decode cL_refusal 7 = .ok (.lastore, 1) := by decide +kernel
theorem dL_refusal_8 : decode cL_refusal 8 = .ok (.goto 6, 3) := by decide +kernel
theorem dL_refusal_11 : decode cL_refusal 11 = .ok (.astore_n 2, 1) := by decide +kernel
theorem dL_refusal_12 : decode cL_refusal 12 = .ok (.iconst 1, 1) := by decide +kernel
theorem dL_refusal_13 : decode cL_refusal 13 = .ok (.ireturn, 1) := by decide +kernel
theorem dL_refusal_14 : decode cL_refusal 14 = .ok (.iconst 0, 1) := by decide +kernel
theorem dL_refusal_15 : decode cL_refusal 15 = .ok (.ireturn, 1) := by decide +kernel
theorem dL_pipe_0 : decode cL_pipe 0 = .ok (.aload_n 3, 1) := by decide +kernel
theorem dL_pipe_1 : decode cL_pipe 1 = .ok (.iconst 0, 1) := by decide +kernel
theorem dL_pipe_2 : decode cL_pipe 2 = .ok (.aload_n 0, 1) := by decide +kernel
theorem dL_pipe_3 : decode cL_pipe 3 = .ok (.iload_n 1, 1) := by decide +kernel
theorem dL_pipe_4 : decode cL_pipe 4 = .ok (.iload_n 2, 1) := by decide +kernel
theorem dL_pipe_5 : decode cL_pipe 5 = .ok (.invokevirtual 61, 3) := by decide +kernel
theorem dL_pipe_8 : decode cL_pipe 8 = .ok (.i2l, 1) := by decide +kernel
theorem dL_pipe_9 : decode cL_pipe 9 = .ok (.lastore, 1) := by decide +kernel
theorem dL_pipe_10 : decode cL_pipe 10 = .ok (.goto 11, 3) := by decide +kernel
theorem dL_pipe_13 : decode cL_pipe 13 = .ok (.astore 4, 2) := by decide +kernel
theorem dL_pipe_15 : decode cL_pipe 15 = .ok (.iconst 1, 1) := by decide +kernel
theorem dL_pipe_16 : decode cL_pipe 16 = .ok (.ireturn, 1) := by decide +kernel
theorem dL_pipe_17 : decode cL_pipe 17 = .ok (.astore 4, 2) := by decide +kernel
theorem dL_pipe_19 : decode cL_pipe 19 = .ok (.iconst 2, 1) := by decide +kernel
theorem dL_pipe_20 : decode cL_pipe 20 = .ok (.ireturn, 1) := by decide +kernel
theorem dL_pipe_21 : decode cL_pipe 21 = .ok (.iconst 0, 1) := by decide +kernel
theorem dL_pipe_22 : decode cL_pipe 22 = .ok (.ireturn, 1) := by decide +kernel
theorem dL_station_0 : decode cL_station 0 = .ok (.aload_n 3, 1) := by decide +kernel
theorem dL_station_1 : decode cL_station 1 = .ok (.iconst 0, 1) := by decide +kernel
theorem dL_station_2 : decode cL_station 2 = .ok (.aload_n 0, 1) := by decide +kernel
theorem dL_station_3 : decode cL_station 3 = .ok (.iload_n 1, 1) := by decide +kernel
theorem dL_station_4 : decode cL_station 4 = .ok (.iload_n 2, 1) := by decide +kernel
theorem dL_station_5 : decode cL_station 5 = .ok (.invokevirtual 64, 3) := by decide +kernel
theorem dL_station_8 : decode cL_station 8 = .ok (.i2l, 1) := by decide +kernel
theorem dL_station_9 : decode cL_station 9 = .ok (.lastore, 1) := by decide +kernel
theorem dL_station_10 : decode cL_station 10 = .ok (.goto 11, 3) := by decide +kernel
theorem dL_station_13 : decode cL_station 13 = .ok (.astore 4, 2) := by decide +kernel
theorem dL_station_15 : decode cL_station 15 = .ok (.iconst 1, 1) := by decide +kernel
theorem dL_station_16 : decode cL_station 16 = .ok (.ireturn, 1) := by decide +kernel
theorem dL_station_17 : decode cL_station 17 = .ok (.astore 4, 2) := by decide +kernel
theorem dL_station_19 : decode cL_station 19 = .ok (.iconst 2, 1) := by decide +kernel
theorem dL_station_20 : decode cL_station 20 = .ok (.ireturn, 1) := by decide +kernel
theorem dL_station_21 : decode cL_station 21 = .ok (.iconst 0, 1) := by decide +kernel
theorem dL_station_22 : decode cL_station 22 = .ok (.ireturn, 1) := by decide +kernel
theorem dL_meter_0 : decode cL_meter 0 = .ok (.aload_n 3, 1) := by decide +kernel
theorem dL_meter_1 : decode cL_meter 1 = .ok (.iconst 0, 1) := by decide +kernel
theorem dL_meter_2 : decode cL_meter 2 = .ok (.aload_n 0, 1) := by decide +kernel
theorem dL_meter_3 : decode cL_meter 3 = .ok (.iload_n 1, 1) := by decide +kernel
theorem dL_meter_4 : decode cL_meter 4 = .ok (.iload_n 2, 1) := by decide +kernel
theorem dL_meter_5 : decode cL_meter 5 = .ok (.invokevirtual 67, 3) := by decide +kernel
theorem dL_meter_8 : decode cL_meter 8 = .ok (.lastore, 1) := by decide +kernel
theorem dL_meter_9 : decode cL_meter 9 = .ok (.goto 11, 3) := by decide +kernel
theorem dL_meter_12 : decode cL_meter 12 = .ok (.astore 4, 2) := by decide +kernel
theorem dL_meter_14 : decode cL_meter 14 = .ok (.iconst 1, 1) := by decide +kernel
theorem dL_meter_15 : decode cL_meter 15 = .ok (.ireturn, 1) := by decide +kernel
theorem dL_meter_16 : decode cL_meter 16 = .ok (.astore 4, 2) := by decide +kernel
theorem dL_meter_18 : decode cL_meter 18 = .ok (.iconst 2, 1) := by decide +kernel
theorem dL_meter_19 : decode cL_meter 19 = .ok (.ireturn, 1) := by decide +kernel
theorem dL_meter_20 : decode cL_meter 20 = .ok (.iconst 0, 1) := by decide +kernel
theorem dL_meter_21 : decode cL_meter 21 = .ok (.ireturn, 1) := by decide +kernel
theorem dL_flow_0 : decode cL_flow 0 = .ok (.aload_n 2, 1) := by decide +kernel
theorem dL_flow_1 : decode cL_flow 1 = .ok (.iconst 0, 1) := by decide +kernel
theorem dL_flow_2 : decode cL_flow 2 = .ok (.aload_n 0, 1) := by decide +kernel
theorem dL_flow_3 : decode cL_flow 3 = .ok (.iload_n 1, 1) := by decide +kernel
theorem dL_flow_4 : decode cL_flow 4 = .ok (.invokevirtual 71, 3) := by decide +kernel
theorem dL_flow_7 : decode cL_flow 7 = .ok (.i2l, 1) := by decide +kernel
theorem dL_flow_8 : decode cL_flow 8 = .ok (.lastore, 1) := by decide +kernel
theorem dL_flow_9 : decode cL_flow 9 = .ok (.goto 6, 3) := by decide +kernel
theorem dL_flow_12 : decode cL_flow 12 = .ok (.astore_n 3, 1) := by decide +kernel
theorem dL_flow_13 : decode cL_flow 13 = .ok (.iconst 1, 1) := by decide +kernel
theorem dL_flow_14 : decode cL_flow 14 = .ok (.ireturn, 1) := by decide +kernel
theorem dL_flow_15 : decode cL_flow 15 = .ok (.iconst 0, 1) := by decide +kernel
theorem dL_flow_16 : decode cL_flow 16 = .ok (.ireturn, 1) := by decide +kernel
theorem dL_direction_0 : decode cL_direction 0 = .ok (.aload_n 2, 1) := by decide +kernel
theorem dL_direction_1 : decode cL_direction 1 = .ok (.iconst 0, 1) := by decide +kernel
theorem dL_direction_2 : decode cL_direction 2 = .ok (.aload_n 0, 1) := by decide +kernel
theorem dL_direction_3 : decode cL_direction 3 = .ok (.iload_n 1, 1) := by decide +kernel
theorem dL_direction_4 : decode cL_direction 4 = .ok (.invokevirtual 74, 3) := by decide +kernel
theorem dL_direction_7 : decode cL_direction 7 = .ok (.i2l, 1) := by decide +kernel
theorem dL_direction_8 : decode cL_direction 8 = .ok (.lastore, 1) := by decide +kernel
theorem dL_direction_9 : decode cL_direction 9 = .ok (.goto 6, 3) := by decide +kernel
theorem dL_direction_12 : decode cL_direction 12 = .ok (.astore_n 3, 1) := by decide +kernel
theorem dL_direction_13 : decode cL_direction 13 = .ok (.iconst 1, 1) := by decide +kernel
theorem dL_direction_14 : decode cL_direction 14 = .ok (.ireturn, 1) := by decide +kernel
theorem dL_direction_15 : decode cL_direction 15 = .ok (.iconst 0, 1) := by decide +kernel
theorem dL_direction_16 : decode cL_direction 16 = .ok (.ireturn, 1) := by decide +kernel
theorem dL_temperature_0 : decode cL_temperature 0 = .ok (.aload_n 3, 1) := by decide +kernel
theorem dL_temperature_1 : decode cL_temperature 1 = .ok (.iconst 0, 1) := by decide +kernel
theorem dL_temperature_2 : decode cL_temperature 2 = .ok (.aload_n 0, 1) := by decide +kernel
theorem dL_temperature_3 : decode cL_temperature 3 = .ok (.iload_n 1, 1) := by decide +kernel
theorem dL_temperature_4 : decode cL_temperature 4 = .ok (.iload_n 2, 1) := by decide +kernel
theorem dL_temperature_5 : decode cL_temperature 5 = .ok (.invokevirtual 78, 3) := by decide +kernel
theorem dL_temperature_8 : decode cL_temperature 8 = .ok (.i2l, 1) := by decide +kernel
theorem dL_temperature_9 : decode cL_temperature 9 = .ok (.lastore, 1) := by decide +kernel
theorem dL_temperature_10 : decode cL_temperature 10 = .ok (.goto 7, 3) := by decide +kernel
theorem dL_temperature_13 : decode cL_temperature 13 = .ok (.astore 4, 2) := by decide +kernel
theorem dL_temperature_15 : decode cL_temperature 15 = .ok (.iconst 1, 1) := by decide +kernel
theorem dL_temperature_16 : decode cL_temperature 16 = .ok (.ireturn, 1) := by decide +kernel
theorem dL_temperature_17 : decode cL_temperature 17 = .ok (.iconst 0, 1) := by decide +kernel
theorem dL_temperature_18 : decode cL_temperature 18 = .ok (.ireturn, 1) := by decide +kernel
theorem dL_loss_0 : decode cL_loss 0 = .ok (.aload_n 2, 1) := by decide +kernel
theorem dL_loss_1 : decode cL_loss 1 = .ok (.iconst 0, 1) := by decide +kernel
theorem dL_loss_2 : decode cL_loss 2 = .ok (.aload_n 0, 1) := by decide +kernel
theorem dL_loss_3 : decode cL_loss 3 = .ok (.iload_n 1, 1) := by decide +kernel
theorem dL_loss_4 : decode cL_loss 4 = .ok (.invokevirtual 82, 3) := by decide +kernel
theorem dL_loss_7 : decode cL_loss 7 = .ok (.lastore, 1) := by decide +kernel
theorem dL_loss_8 : decode cL_loss 8 = .ok (.goto 6, 3) := by decide +kernel
theorem dL_loss_11 : decode cL_loss 11 = .ok (.astore_n 3, 1) := by decide +kernel
theorem dL_loss_12 : decode cL_loss 12 = .ok (.iconst 1, 1) := by decide +kernel
theorem dL_loss_13 : decode cL_loss 13 = .ok (.ireturn, 1) := by decide +kernel
theorem dL_loss_14 : decode cL_loss 14 = .ok (.iconst 0, 1) := by decide +kernel
theorem dL_loss_15 : decode cL_loss 15 = .ok (.ireturn, 1) := by decide +kernel
theorem dL_rounding_0 : decode cL_rounding 0 = .ok (.aload_n 2, 1) := by decide +kernel
theorem dL_rounding_1 : decode cL_rounding 1 = .ok (.iconst 0, 1) := by decide +kernel
theorem dL_rounding_2 : decode cL_rounding 2 = .ok (.aload_n 0, 1) := by decide +kernel
theorem dL_rounding_3 : decode cL_rounding 3 = .ok (.iload_n 1, 1) := by decide +kernel
theorem dL_rounding_4 : decode cL_rounding 4 = .ok (.invokevirtual 85, 3) := by decide +kernel
theorem dL_rounding_7 : decode cL_rounding 7 = .ok (.lastore, 1) := by decide +kernel
theorem dL_rounding_8 : decode cL_rounding 8 = .ok (.goto 6, 3) := by decide +kernel
theorem dL_rounding_11 : decode cL_rounding 11 = .ok (.astore_n 3, 1) := by decide +kernel
theorem dL_rounding_12 : decode cL_rounding 12 = .ok (.iconst 1, 1) := by decide +kernel
theorem dL_rounding_13 : decode cL_rounding 13 = .ok (.ireturn, 1) := by decide +kernel
theorem dL_rounding_14 : decode cL_rounding 14 = .ok (.iconst 0, 1) := by decide +kernel
theorem dL_rounding_15 : decode cL_rounding 15 = .ok (.ireturn, 1) := by decide +kernel
theorem dL_head_0 : decode cL_head 0 = .ok (.aload_n 2, 1) := by decide +kernel
theorem dL_head_1 : decode cL_head 1 = .ok (.iconst 0, 1) := by decide +kernel
theorem dL_head_2 : decode cL_head 2 = .ok (.aload_n 0, 1) := by decide +kernel
theorem dL_head_3 : decode cL_head 3 = .ok (.iload_n 1, 1) := by decide +kernel
theorem dL_head_4 : decode cL_head 4 = .ok (.invokevirtual 88, 3) := by decide +kernel
theorem dL_head_7 : decode cL_head 7 = .ok (.lastore, 1) := by decide +kernel
theorem dL_head_8 : decode cL_head 8 = .ok (.goto 6, 3) := by decide +kernel
theorem dL_head_11 : decode cL_head 11 = .ok (.astore_n 3, 1) := by decide +kernel
theorem dL_head_12 : decode cL_head 12 = .ok (.iconst 1, 1) := by decide +kernel
theorem dL_head_13 : decode cL_head 13 = .ok (.ireturn, 1) := by decide +kernel
theorem dL_head_14 : decode cL_head 14 = .ok (.iconst 0, 1) := by decide +kernel
theorem dL_head_15 : decode cL_head 15 = .ok (.ireturn, 1) := by decide +kernel
theorem dL_imbalance_0 : decode cL_imbalance 0 = .ok (.aload_n 1, 1) := by decide +kernel
theorem dL_imbalance_1 : decode cL_imbalance 1 = .ok (.iconst 0, 1) := by decide +kernel
theorem dL_imbalance_2 : decode cL_imbalance 2 = .ok (.aload_n 0, 1) := by decide +kernel
theorem dL_imbalance_3 : decode cL_imbalance 3 = .ok (.invokevirtual 91, 3) := by decide +kernel
theorem dL_imbalance_6 : decode cL_imbalance 6 = .ok (.lastore, 1) := by decide +kernel
theorem dL_imbalance_7 : decode cL_imbalance 7 = .ok (.goto 6, 3) := by decide +kernel
theorem dL_imbalance_10 : decode cL_imbalance 10 = .ok (.astore_n 2, 1) := by decide +kernel
theorem dL_imbalance_11 : decode cL_imbalance 11 = .ok (.iconst 1, 1) := by decide +kernel
theorem dL_imbalance_12 : decode cL_imbalance 12 = .ok (.ireturn, 1) := by decide +kernel
theorem dL_imbalance_13 : decode cL_imbalance 13 = .ok (.iconst 0, 1) := by decide +kernel
theorem dL_imbalance_14 : decode cL_imbalance 14 = .ok (.ireturn, 1) := by decide +kernel
theorem dL_loop_0 : decode cL_loop 0 = .ok (.aload_n 2, 1) := by decide +kernel
theorem dL_loop_1 : decode cL_loop 1 = .ok (.iconst 0, 1) := by decide +kernel
theorem dL_loop_2 : decode cL_loop 2 = .ok (.aload_n 0, 1) := by decide +kernel
theorem dL_loop_3 : decode cL_loop 3 = .ok (.iload_n 1, 1) := by decide +kernel
theorem dL_loop_4 : decode cL_loop 4 = .ok (.invokevirtual 95, 3) := by decide +kernel
theorem dL_loop_7 : decode cL_loop 7 = .ok (.i2l, 1) := by decide +kernel
theorem dL_loop_8 : decode cL_loop 8 = .ok (.lastore, 1) := by decide +kernel
theorem dL_loop_9 : decode cL_loop 9 = .ok (.goto 6, 3) := by decide +kernel
theorem dL_loop_12 : decode cL_loop 12 = .ok (.astore_n 3, 1) := by decide +kernel
theorem dL_loop_13 : decode cL_loop 13 = .ok (.iconst 1, 1) := by decide +kernel
theorem dL_loop_14 : decode cL_loop 14 = .ok (.ireturn, 1) := by decide +kernel
theorem dL_loop_15 : decode cL_loop 15 = .ok (.iconst 0, 1) := by decide +kernel
theorem dL_loop_16 : decode cL_loop 16 = .ok (.ireturn, 1) := by decide +kernel
theorem dL_distance_0 : decode cL_distance 0 = .ok (.aload_n 2, 1) := by decide +kernel
theorem dL_distance_1 : decode cL_distance 1 = .ok (.iconst 0, 1) := by decide +kernel
theorem dL_distance_2 : decode cL_distance 2 = .ok (.aload_n 0, 1) := by decide +kernel
theorem dL_distance_3 : decode cL_distance 3 = .ok (.iload_n 1, 1) := by decide +kernel
theorem dL_distance_4 : decode cL_distance 4 = .ok (.invokevirtual 98, 3) := by decide +kernel
theorem dL_distance_7 : decode cL_distance 7 = .ok (.i2l, 1) := by decide +kernel
theorem dL_distance_8 : decode cL_distance 8 = .ok (.lastore, 1) := by decide +kernel
theorem dL_distance_9 : decode cL_distance 9 = .ok (.goto 6, 3) := by decide +kernel
theorem dL_distance_12 : decode cL_distance 12 = .ok (.astore_n 3, 1) := by decide +kernel
theorem dL_distance_13 : decode cL_distance 13 = .ok (.iconst 1, 1) := by decide +kernel
theorem dL_distance_14 : decode cL_distance 14 = .ok (.ireturn, 1) := by decide +kernel
theorem dL_distance_15 : decode cL_distance 15 = .ok (.iconst 0, 1) := by decide +kernel
theorem dL_distance_16 : decode cL_distance 16 = .ok (.ireturn, 1) := by decide +kernel
theorem dL_part_0 : decode cL_part 0 = .ok (.aload_n 2, 1) := by decide +kernel
theorem dL_part_1 : decode cL_part 1 = .ok (.iconst 0, 1) := by decide +kernel
theorem dL_part_2 : decode cL_part 2 = .ok (.aload_n 0, 1) := by decide +kernel
theorem dL_part_3 : decode cL_part 3 = .ok (.iload_n 1, 1) := by decide +kernel
theorem dL_part_4 : decode cL_part 4 = .ok (.invokevirtual 101, 3) := by decide +kernel
theorem dL_part_7 : decode cL_part 7 = .ok (.i2l, 1) := by decide +kernel
theorem dL_part_8 : decode cL_part 8 = .ok (.lastore, 1) := by decide +kernel
theorem dL_part_9 : decode cL_part 9 = .ok (.goto 6, 3) := by decide +kernel
theorem dL_part_12 : decode cL_part 12 = .ok (.astore_n 3, 1) := by decide +kernel
theorem dL_part_13 : decode cL_part 13 = .ok (.iconst 1, 1) := by decide +kernel
theorem dL_part_14 : decode cL_part 14 = .ok (.ireturn, 1) := by decide +kernel
theorem dL_part_15 : decode cL_part 15 = .ok (.iconst 0, 1) := by decide +kernel
theorem dL_part_16 : decode cL_part 16 = .ok (.ireturn, 1) := by decide +kernel
theorem dL_isConnected_0 : decode cL_isConnected 0 = .ok (.aload_n 2, 1) := by decide +kernel
theorem dL_isConnected_1 : decode cL_isConnected 1 = .ok (.iconst 0, 1) := by decide +kernel
theorem dL_isConnected_2 : decode cL_isConnected 2 = .ok (.aload_n 0, 1) := by decide +kernel
theorem dL_isConnected_3 : decode cL_isConnected 3 = .ok (.iload_n 1, 1) := by decide +kernel
theorem dL_isConnected_4 : decode cL_isConnected 4 = .ok (.invokevirtual 104, 3) := by decide +kernel
theorem dL_isConnected_7 : decode cL_isConnected 7 = .ok (.ifCond .eq 7, 3) := by decide +kernel
theorem dL_isConnected_10 : decode cL_isConnected 10 = .ok (.lconst 1, 1) := by decide +kernel
theorem dL_isConnected_11 : decode cL_isConnected 11 = .ok (.goto 4, 3) := by decide +kernel
theorem dL_isConnected_14 : decode cL_isConnected 14 = .ok (.lconst 0, 1) := by decide +kernel
theorem dL_isConnected_15 : decode cL_isConnected 15 = .ok (.lastore, 1) := by decide +kernel
theorem dL_isConnected_16 : decode cL_isConnected 16 = .ok (.goto 6, 3) := by decide +kernel
theorem dL_isConnected_19 : decode cL_isConnected 19 = .ok (.astore_n 3, 1) := by decide +kernel
theorem dL_isConnected_20 : decode cL_isConnected 20 = .ok (.iconst 1, 1) := by decide +kernel
theorem dL_isConnected_21 : decode cL_isConnected 21 = .ok (.ireturn, 1) := by decide +kernel
theorem dL_isConnected_22 : decode cL_isConnected 22 = .ok (.iconst 0, 1) := by decide +kernel
theorem dL_isConnected_23 : decode cL_isConnected 23 = .ok (.ireturn, 1) := by decide +kernel
theorem dL_suspect_0 : decode cL_suspect 0 = .ok (.aload_n 1, 1) := by decide +kernel
theorem dL_suspect_1 : decode cL_suspect 1 = .ok (.iconst 0, 1) := by decide +kernel
theorem dL_suspect_2 : decode cL_suspect 2 = .ok (.aload_n 0, 1) := by decide +kernel
theorem dL_suspect_3 : decode cL_suspect 3 = .ok (.invokevirtual 108, 3) := by decide +kernel
theorem dL_suspect_6 : decode cL_suspect 6 = .ok (.i2l, 1) := by decide +kernel
theorem dL_suspect_7 : decode cL_suspect 7 = .ok (.lastore, 1) := by decide +kernel
theorem dL_suspect_8 : decode cL_suspect 8 = .ok (.goto 6, 3) := by decide +kernel
theorem dL_suspect_11 : decode cL_suspect 11 = .ok (.astore_n 2, 1) := by decide +kernel
theorem dL_suspect_12 : decode cL_suspect 12 = .ok (.iconst 1, 1) := by decide +kernel
theorem dL_suspect_13 : decode cL_suspect 13 = .ok (.ireturn, 1) := by decide +kernel
theorem dL_suspect_14 : decode cL_suspect 14 = .ok (.iconst 0, 1) := by decide +kernel
theorem dL_suspect_15 : decode cL_suspect 15 = .ok (.ireturn, 1) := by decide +kernel
theorem dL_trial_0 : decode cL_trial 0 = .ok (.aload_n 3, 1) := by decide +kernel
theorem dL_trial_1 : decode cL_trial 1 = .ok (.iconst 0, 1) := by decide +kernel
theorem dL_trial_2 : decode cL_trial 2 = .ok (.aload_n 0, 1) := by decide +kernel
theorem dL_trial_3 : decode cL_trial 3 = .ok (.iload_n 1, 1) := by decide +kernel
theorem dL_trial_4 : decode cL_trial 4 = .ok (.iload_n 2, 1) := by decide +kernel
theorem dL_trial_5 : decode cL_trial 5 = .ok (.invokevirtual 111, 3) := by decide +kernel
theorem dL_trial_8 : decode cL_trial 8 = .ok (.lastore, 1) := by decide +kernel
theorem dL_trial_9 : decode cL_trial 9 = .ok (.goto 11, 3) := by decide +kernel
theorem dL_trial_12 : decode cL_trial 12 = .ok (.astore 4, 2) := by decide +kernel
theorem dL_trial_14 : decode cL_trial 14 = .ok (.iconst 1, 1) := by decide +kernel
theorem dL_trial_15 : decode cL_trial 15 = .ok (.ireturn, 1) := by decide +kernel
theorem dL_trial_16 : decode cL_trial 16 = .ok (.astore 4, 2) := by decide +kernel
theorem dL_trial_18 : decode cL_trial 18 = .ok (.iconst 2, 1) := by decide +kernel
theorem dL_trial_19 : decode cL_trial 19 = .ok (.ireturn, 1) := by decide +kernel
theorem dL_trial_20 : decode cL_trial 20 = .ok (.iconst 0, 1) := by decide +kernel
theorem dL_trial_21 : decode cL_trial 21 = .ok (.ireturn, 1) := by decide +kernel
theorem dL_bestReturn_0 : decode cL_bestReturn 0 = .ok (.aload_n 2, 1) := by decide +kernel
theorem dL_bestReturn_1 : decode cL_bestReturn 1 = .ok (.iconst 0, 1) := by decide +kernel
theorem dL_bestReturn_2 : decode cL_bestReturn 2 = .ok (.aload_n 0, 1) := by decide +kernel
theorem dL_bestReturn_3 : decode cL_bestReturn 3 = .ok (.iload_n 1, 1) := by decide +kernel
theorem dL_bestReturn_4 : decode cL_bestReturn 4 = .ok (.invokevirtual 114, 3) := by decide +kernel
theorem dL_bestReturn_7 : decode cL_bestReturn 7 = .ok (.i2l, 1) := by decide +kernel
theorem dL_bestReturn_8 : decode cL_bestReturn 8 = .ok (.lastore, 1) := by decide +kernel
theorem dL_bestReturn_9 : decode cL_bestReturn 9 = .ok (.goto 6, 3) := by decide +kernel
theorem dL_bestReturn_12 : decode cL_bestReturn 12 = .ok (.astore_n 3, 1) := by decide +kernel
theorem dL_bestReturn_13 : decode cL_bestReturn 13 = .ok (.iconst 1, 1) := by decide +kernel
theorem dL_bestReturn_14 : decode cL_bestReturn 14 = .ok (.ireturn, 1) := by decide +kernel
theorem dL_bestReturn_15 : decode cL_bestReturn 15 = .ok (.iconst 0, 1) := by decide +kernel
theorem dL_bestReturn_16 : decode cL_bestReturn 16 = .ok (.ireturn, 1) := by decide +kernel
theorem dL_account_0 : decode cL_account 0 = .ok (.aload_n 2, 1) := by decide +kernel
theorem dL_account_1 : decode cL_account 1 = .ok (.iconst 0, 1) := by decide +kernel
theorem dL_account_2 : decode cL_account 2 = .ok (.aload_n 0, 1) := by decide +kernel
theorem dL_account_3 : decode cL_account 3 = .ok (.iload_n 1, 1) := by decide +kernel
theorem dL_account_4 : decode cL_account 4 = .ok (.invokevirtual 117, 3) := by decide +kernel
theorem dL_account_7 : decode cL_account 7 = .ok (.lastore, 1) := by decide +kernel
theorem dL_account_8 : decode cL_account 8 = .ok (.goto 6, 3) := by decide +kernel
theorem dL_account_11 : decode cL_account 11 = .ok (.astore_n 3, 1) := by decide +kernel
theorem dL_account_12 : decode cL_account 12 = .ok (.iconst 1, 1) := by decide +kernel
theorem dL_account_13 : decode cL_account 13 = .ok (.ireturn, 1) := by decide +kernel
theorem dL_account_14 : decode cL_account 14 = .ok (.iconst 0, 1) := by decide +kernel
theorem dL_account_15 : decode cL_account 15 = .ok (.ireturn, 1) := by decide +kernel
theorem dL_efficiency_0 : decode cL_efficiency 0 = .ok (.aload_n 1, 1) := by decide +kernel
theorem dL_efficiency_1 : decode cL_efficiency 1 = .ok (.iconst 0, 1) := by decide +kernel
theorem dL_efficiency_2 : decode cL_efficiency 2 = .ok (.aload_n 0, 1) := by decide +kernel
theorem dL_efficiency_3 : decode cL_efficiency 3 = .ok (.invokevirtual 120, 3) := by decide +kernel
theorem dL_efficiency_6 : decode cL_efficiency 6 = .ok (.dastore, 1) := by decide +kernel
theorem dL_efficiency_7 : decode cL_efficiency 7 = .ok (.goto 6, 3) := by decide +kernel
theorem dL_efficiency_10 : decode cL_efficiency 10 = .ok (.astore_n 2, 1) := by decide +kernel
theorem dL_efficiency_11 : decode cL_efficiency 11 = .ok (.iconst 1, 1) := by decide +kernel
theorem dL_efficiency_12 : decode cL_efficiency 12 = .ok (.ireturn, 1) := by decide +kernel
theorem dL_efficiency_13 : decode cL_efficiency 13 = .ok (.iconst 0, 1) := by decide +kernel
theorem dL_efficiency_14 : decode cL_efficiency 14 = .ok (.ireturn, 1) := by decide +kernel
theorem dL_count_0 : decode cL_count 0 = .ok (.aload_n 2, 1) := by decide +kernel
theorem dL_count_1 : decode cL_count 1 = .ok (.iconst 0, 1) := by decide +kernel
theorem dL_count_2 : decode cL_count 2 = .ok (.aload_n 0, 1) := by decide +kernel
theorem dL_count_3 : decode cL_count 3 = .ok (.iload_n 1, 1) := by decide +kernel
theorem dL_count_4 : decode cL_count 4 = .ok (.invokevirtual 126, 3) := by decide +kernel
theorem dL_count_7 : decode cL_count 7 = .ok (.i2l, 1) := by decide +kernel
theorem dL_count_8 : decode cL_count 8 = .ok (.lastore, 1) := by decide +kernel
theorem dL_count_9 : decode cL_count 9 = .ok (.goto 6, 3) := by decide +kernel
theorem dL_count_12 : decode cL_count 12 = .ok (.astore_n 3, 1) := by decide +kernel
theorem dL_count_13 : decode cL_count 13 = .ok (.iconst 1, 1) := by decide +kernel
theorem dL_count_14 : decode cL_count 14 = .ok (.ireturn, 1) := by decide +kernel
theorem dL_count_15 : decode cL_count 15 = .ok (.iconst 0, 1) := by decide +kernel
theorem dL_count_16 : decode cL_count 16 = .ok (.ireturn, 1) := by decide +kernel
theorem dL_undo_0 : decode cL_undo 0 = .ok (.aload_n 1, 1) := by decide +kernel
theorem dL_undo_1 : decode cL_undo 1 = .ok (.iconst 0, 1) := by decide +kernel
theorem dL_undo_2 : decode cL_undo 2 = .ok (.aload_n 0, 1) := by decide +kernel
theorem dL_undo_3 : decode cL_undo 3 = .ok (.invokevirtual 129, 3) := by decide +kernel
theorem dL_undo_6 : decode cL_undo 6 = .ok (.i2l, 1) := by decide +kernel
theorem dL_undo_7 : decode cL_undo 7 = .ok (.lastore, 1) := by decide +kernel
theorem dL_undo_8 : decode cL_undo 8 = .ok (.goto 6, 3) := by decide +kernel
theorem dL_undo_11 : decode cL_undo 11 = .ok (.astore_n 2, 1) := by decide +kernel
theorem dL_undo_12 : decode cL_undo 12 = .ok (.iconst 1, 1) := by decide +kernel
theorem dL_undo_13 : decode cL_undo 13 = .ok (.ireturn, 1) := by decide +kernel
theorem dL_undo_14 : decode cL_undo 14 = .ok (.iconst 0, 1) := by decide +kernel
theorem dL_undo_15 : decode cL_undo 15 = .ok (.ireturn, 1) := by decide +kernel
theorem dL_restore_0 : decode cL_restore 0 = .ok (.aload_n 1, 1) := by decide +kernel
theorem dL_restore_1 : decode cL_restore 1 = .ok (.iconst 0, 1) := by decide +kernel
theorem dL_restore_2 : decode cL_restore 2 = .ok (.aload_n 0, 1) := by decide +kernel
theorem dL_restore_3 : decode cL_restore 3 = .ok (.invokevirtual 132, 3) := by decide +kernel
theorem dL_restore_6 : decode cL_restore 6 = .ok (.i2l, 1) := by decide +kernel
theorem dL_restore_7 : decode cL_restore 7 = .ok (.lastore, 1) := by decide +kernel
theorem dL_restore_8 : decode cL_restore 8 = .ok (.goto 6, 3) := by decide +kernel
theorem dL_restore_11 : decode cL_restore 11 = .ok (.astore_n 2, 1) := by decide +kernel
theorem dL_restore_12 : decode cL_restore 12 = .ok (.iconst 1, 1) := by decide +kernel
theorem dL_restore_13 : decode cL_restore 13 = .ok (.ireturn, 1) := by decide +kernel
theorem dL_restore_14 : decode cL_restore 14 = .ok (.iconst 0, 1) := by decide +kernel
theorem dL_restore_15 : decode cL_restore 15 = .ok (.ireturn, 1) := by decide +kernel
theorem wq_595 : (Jvm.Cond.classLink "HeatNetworkLaw" (13 : Nat) "java/lang/IndexOutOfBoundsException") ∈ TB := tb_mem 595 (by decide +kernel) (by decide +kernel)
theorem wq_675 : (Jvm.Cond.classLink "HeatNetworkLaw" (15 : Nat) "java/lang/IllegalArgumentException") ∈ TB := tb_mem 675 (by decide +kernel) (by decide +kernel)
theorem wq_676 : (Jvm.Cond.methodLink "HeatNetworkLaw" (7 : Nat) ({ cls := "HeatNetwork", name := "setSetting", desc := "(II)I" } : Jvm.MethodName)) ∈ TB := tb_mem 676 (by decide +kernel) (by decide +kernel)
theorem wq_677 : (Jvm.Cond.instanceMethod ({ cls := "HeatNetwork", name := "setSetting", desc := "(II)I" } : Jvm.MethodName)) ∈ TB := tb_mem 677 (by decide +kernel) (by decide +kernel)
theorem wq_678 : (Jvm.Cond.selects "HeatNetwork" ({ cls := "HeatNetwork", name := "setSetting", desc := "(II)I" } : Jvm.MethodName) ({ cls := "HeatNetwork", name := "setSetting", desc := "(II)I" } : Jvm.MethodName)) ∈ TB := tb_mem 678 (by decide +kernel) (by decide +kernel)
theorem wq_679 : (Jvm.Cond.code ({ cls := "HeatNetwork", name := "setSetting", desc := "(II)I" } : Jvm.MethodName) prog_1_method_2_code (5 : Nat) (Option.some Jvm.ClassFile.FieldType.int)) ∈ TB := tb_mem 679 (by decide +kernel) (by decide +kernel)
theorem wq_728 : (Jvm.Cond.methodLink "HeatNetworkLaw" (17 : Nat) ({ cls := "HeatNetwork", name := "setting", desc := "(I)I" } : Jvm.MethodName)) ∈ TB := tb_mem 728 (by decide +kernel) (by decide +kernel)
theorem wq_729 : (Jvm.Cond.instanceMethod ({ cls := "HeatNetwork", name := "setting", desc := "(I)I" } : Jvm.MethodName)) ∈ TB := tb_mem 729 (by decide +kernel) (by decide +kernel)
theorem wq_730 : (Jvm.Cond.selects "HeatNetwork" ({ cls := "HeatNetwork", name := "setting", desc := "(I)I" } : Jvm.MethodName) ({ cls := "HeatNetwork", name := "setting", desc := "(I)I" } : Jvm.MethodName)) ∈ TB := tb_mem 730 (by decide +kernel) (by decide +kernel)
theorem wq_731 : (Jvm.Cond.code ({ cls := "HeatNetwork", name := "setting", desc := "(I)I" } : Jvm.MethodName) prog_1_method_3_code (2 : Nat) (Option.some Jvm.ClassFile.FieldType.int)) ∈ TB := tb_mem 731 (by decide +kernel) (by decide +kernel)
theorem wq_735 : (Jvm.Cond.classLink "HeatNetworkLaw" (25 : Nat) "java/lang/UnsupportedOperationException") ∈ TB := tb_mem 735 (by decide +kernel) (by decide +kernel)
theorem wq_736 : (Jvm.Cond.methodLink "HeatNetworkLaw" (21 : Nat) ({ cls := "HeatNetwork", name := "addPipe", desc := "(IIII)I" } : Jvm.MethodName)) ∈ TB := tb_mem 736 (by decide +kernel) (by decide +kernel)
theorem wq_737 : (Jvm.Cond.instanceMethod ({ cls := "HeatNetwork", name := "addPipe", desc := "(IIII)I" } : Jvm.MethodName)) ∈ TB := tb_mem 737 (by decide +kernel) (by decide +kernel)
theorem wq_738 : (Jvm.Cond.selects "HeatNetwork" ({ cls := "HeatNetwork", name := "addPipe", desc := "(IIII)I" } : Jvm.MethodName) ({ cls := "HeatNetwork", name := "addPipe", desc := "(IIII)I" } : Jvm.MethodName)) ∈ TB := tb_mem 738 (by decide +kernel) (by decide +kernel)
theorem wq_739 : (Jvm.Cond.code ({ cls := "HeatNetwork", name := "addPipe", desc := "(IIII)I" } : Jvm.MethodName) prog_1_method_4_code (5 : Nat) (Option.some Jvm.ClassFile.FieldType.int)) ∈ TB := tb_mem 739 (by decide +kernel) (by decide +kernel)
theorem wq_791 : (Jvm.Cond.methodLink "HeatNetworkLaw" (27 : Nat) ({ cls := "HeatNetwork", name := "removePipe", desc := "(I)I" } : Jvm.MethodName)) ∈ TB := tb_mem 791 (by decide +kernel) (by decide +kernel)
theorem wq_792 : (Jvm.Cond.instanceMethod ({ cls := "HeatNetwork", name := "removePipe", desc := "(I)I" } : Jvm.MethodName)) ∈ TB := tb_mem 792 (by decide +kernel) (by decide +kernel)
theorem wq_793 : (Jvm.Cond.selects "HeatNetwork" ({ cls := "HeatNetwork", name := "removePipe", desc := "(I)I" } : Jvm.MethodName) ({ cls := "HeatNetwork", name := "removePipe", desc := "(I)I" } : Jvm.MethodName)) ∈ TB := tb_mem 793 (by decide +kernel) (by decide +kernel)
theorem wq_794 : (Jvm.Cond.code ({ cls := "HeatNetwork", name := "removePipe", desc := "(I)I" } : Jvm.MethodName) prog_1_method_5_code (2 : Nat) (Option.some Jvm.ClassFile.FieldType.int)) ∈ TB := tb_mem 794 (by decide +kernel) (by decide +kernel)
theorem wq_807 : (Jvm.Cond.methodLink "HeatNetworkLaw" (30 : Nat) ({ cls := "HeatNetwork", name := "addStation", desc := "(IIII)I" } : Jvm.MethodName)) ∈ TB := tb_mem 807 (by decide +kernel) (by decide +kernel)
theorem wq_808 : (Jvm.Cond.instanceMethod ({ cls := "HeatNetwork", name := "addStation", desc := "(IIII)I" } : Jvm.MethodName)) ∈ TB := tb_mem 808 (by decide +kernel) (by decide +kernel)
theorem wq_809 : (Jvm.Cond.selects "HeatNetwork" ({ cls := "HeatNetwork", name := "addStation", desc := "(IIII)I" } : Jvm.MethodName) ({ cls := "HeatNetwork", name := "addStation", desc := "(IIII)I" } : Jvm.MethodName)) ∈ TB := tb_mem 809 (by decide +kernel) (by decide +kernel)
theorem wq_810 : (Jvm.Cond.code ({ cls := "HeatNetwork", name := "addStation", desc := "(IIII)I" } : Jvm.MethodName) prog_1_method_6_code (5 : Nat) (Option.some Jvm.ClassFile.FieldType.int)) ∈ TB := tb_mem 810 (by decide +kernel) (by decide +kernel)
theorem wq_827 : (Jvm.Cond.methodLink "HeatNetworkLaw" (33 : Nat) ({ cls := "HeatNetwork", name := "removeStation", desc := "(I)I" } : Jvm.MethodName)) ∈ TB := tb_mem 827 (by decide +kernel) (by decide +kernel)
theorem wq_828 : (Jvm.Cond.instanceMethod ({ cls := "HeatNetwork", name := "removeStation", desc := "(I)I" } : Jvm.MethodName)) ∈ TB := tb_mem 828 (by decide +kernel) (by decide +kernel)
theorem wq_829 : (Jvm.Cond.selects "HeatNetwork" ({ cls := "HeatNetwork", name := "removeStation", desc := "(I)I" } : Jvm.MethodName) ({ cls := "HeatNetwork", name := "removeStation", desc := "(I)I" } : Jvm.MethodName)) ∈ TB := tb_mem 829 (by decide +kernel) (by decide +kernel)
theorem wq_830 : (Jvm.Cond.code ({ cls := "HeatNetwork", name := "removeStation", desc := "(I)I" } : Jvm.MethodName) prog_1_method_7_code (2 : Nat) (Option.some Jvm.ClassFile.FieldType.int)) ∈ TB := tb_mem 830 (by decide +kernel) (by decide +kernel)
theorem wq_842 : (Jvm.Cond.classLink "HeatNetworkLaw" (39 : Nat) "java/util/NoSuchElementException") ∈ TB := tb_mem 842 (by decide +kernel) (by decide +kernel)
theorem wq_843 : (Jvm.Cond.methodLink "HeatNetworkLaw" (36 : Nat) ({ cls := "HeatNetwork", name := "setReturn", desc := "(II)I" } : Jvm.MethodName)) ∈ TB := tb_mem 843 (by decide +kernel) (by decide +kernel)
theorem wq_844 : (Jvm.Cond.instanceMethod ({ cls := "HeatNetwork", name := "setReturn", desc := "(II)I" } : Jvm.MethodName)) ∈ TB := tb_mem 844 (by decide +kernel) (by decide +kernel)
theorem wq_845 : (Jvm.Cond.selects "HeatNetwork" ({ cls := "HeatNetwork", name := "setReturn", desc := "(II)I" } : Jvm.MethodName) ({ cls := "HeatNetwork", name := "setReturn", desc := "(II)I" } : Jvm.MethodName)) ∈ TB := tb_mem 845 (by decide +kernel) (by decide +kernel)
theorem wq_846 : (Jvm.Cond.code ({ cls := "HeatNetwork", name := "setReturn", desc := "(II)I" } : Jvm.MethodName) prog_1_method_8_code (4 : Nat) (Option.some Jvm.ClassFile.FieldType.int)) ∈ TB := tb_mem 846 (by decide +kernel) (by decide +kernel)
theorem wq_875 : (Jvm.Cond.methodLink "HeatNetworkLaw" (41 : Nat) ({ cls := "HeatNetwork", name := "setMeter", desc := "(III)I" } : Jvm.MethodName)) ∈ TB := tb_mem 875 (by decide +kernel) (by decide +kernel)
theorem wq_876 : (Jvm.Cond.instanceMethod ({ cls := "HeatNetwork", name := "setMeter", desc := "(III)I" } : Jvm.MethodName)) ∈ TB := tb_mem 876 (by decide +kernel) (by decide +kernel)
theorem wq_877 : (Jvm.Cond.selects "HeatNetwork" ({ cls := "HeatNetwork", name := "setMeter", desc := "(III)I" } : Jvm.MethodName) ({ cls := "HeatNetwork", name := "setMeter", desc := "(III)I" } : Jvm.MethodName)) ∈ TB := tb_mem 877 (by decide +kernel) (by decide +kernel)
theorem wq_878 : (Jvm.Cond.code ({ cls := "HeatNetwork", name := "setMeter", desc := "(III)I" } : Jvm.MethodName) prog_1_method_9_code (5 : Nat) (Option.some Jvm.ClassFile.FieldType.int)) ∈ TB := tb_mem 878 (by decide +kernel) (by decide +kernel)
theorem wq_882 : (Jvm.Cond.methodLink "HeatNetworkLaw" (45 : Nat) ({ cls := "HeatNetwork", name := "hours", desc := "(I)J" } : Jvm.MethodName)) ∈ TB := tb_mem 882 (by decide +kernel) (by decide +kernel)
theorem wq_883 : (Jvm.Cond.instanceMethod ({ cls := "HeatNetwork", name := "hours", desc := "(I)J" } : Jvm.MethodName)) ∈ TB := tb_mem 883 (by decide +kernel) (by decide +kernel)
theorem wq_884 : (Jvm.Cond.selects "HeatNetwork" ({ cls := "HeatNetwork", name := "hours", desc := "(I)J" } : Jvm.MethodName) ({ cls := "HeatNetwork", name := "hours", desc := "(I)J" } : Jvm.MethodName)) ∈ TB := tb_mem 884 (by decide +kernel) (by decide +kernel)
theorem wq_885 : (Jvm.Cond.code ({ cls := "HeatNetwork", name := "hours", desc := "(I)J" } : Jvm.MethodName) prog_1_method_10_code (2 : Nat) (Option.some Jvm.ClassFile.FieldType.long)) ∈ TB := tb_mem 885 (by decide +kernel) (by decide +kernel)
theorem wq_929 : (Jvm.Cond.classLink "HeatNetworkLaw" (52 : Nat) "java/lang/IllegalStateException") ∈ TB := tb_mem 929 (by decide +kernel) (by decide +kernel)
theorem wq_930 : (Jvm.Cond.methodLink "HeatNetworkLaw" (49 : Nat) ({ cls := "HeatNetwork", name := "append", desc := "(I)I" } : Jvm.MethodName)) ∈ TB := tb_mem 930 (by decide +kernel) (by decide +kernel)
theorem wq_931 : (Jvm.Cond.instanceMethod ({ cls := "HeatNetwork", name := "append", desc := "(I)I" } : Jvm.MethodName)) ∈ TB := tb_mem 931 (by decide +kernel) (by decide +kernel)
theorem wq_932 : (Jvm.Cond.selects "HeatNetwork" ({ cls := "HeatNetwork", name := "append", desc := "(I)I" } : Jvm.MethodName) ({ cls := "HeatNetwork", name := "append", desc := "(I)I" } : Jvm.MethodName)) ∈ TB := tb_mem 932 (by decide +kernel) (by decide +kernel)
theorem wq_933 : (Jvm.Cond.code ({ cls := "HeatNetwork", name := "append", desc := "(I)I" } : Jvm.MethodName) prog_1_method_11_code (2 : Nat) (Option.some Jvm.ClassFile.FieldType.int)) ∈ TB := tb_mem 933 (by decide +kernel) (by decide +kernel)
theorem wq_953 : (Jvm.Cond.methodLink "HeatNetworkLaw" (54 : Nat) ({ cls := "HeatNetwork", name := "run", desc := "()I" } : Jvm.MethodName)) ∈ TB := tb_mem 953 (by decide +kernel) (by decide +kernel)
theorem wq_954 : (Jvm.Cond.instanceMethod ({ cls := "HeatNetwork", name := "run", desc := "()I" } : Jvm.MethodName)) ∈ TB := tb_mem 954 (by decide +kernel) (by decide +kernel)
theorem wq_955 : (Jvm.Cond.selects "HeatNetwork" ({ cls := "HeatNetwork", name := "run", desc := "()I" } : Jvm.MethodName) ({ cls := "HeatNetwork", name := "run", desc := "()I" } : Jvm.MethodName)) ∈ TB := tb_mem 955 (by decide +kernel) (by decide +kernel)
theorem wq_956 : (Jvm.Cond.code ({ cls := "HeatNetwork", name := "run", desc := "()I" } : Jvm.MethodName) prog_1_method_12_code (3 : Nat) (Option.some Jvm.ClassFile.FieldType.int)) ∈ TB := tb_mem 956 (by decide +kernel) (by decide +kernel)
theorem wq_999 : (Jvm.Cond.methodLink "HeatNetworkLaw" (58 : Nat) ({ cls := "HeatNetwork", name := "refusal", desc := "()I" } : Jvm.MethodName)) ∈ TB := tb_mem 999 (by decide +kernel) (by decide +kernel)
theorem wq_1000 : (Jvm.Cond.instanceMethod ({ cls := "HeatNetwork", name := "refusal", desc := "()I" } : Jvm.MethodName)) ∈ TB := tb_mem 1000 (by decide +kernel) (by decide +kernel)
theorem wq_1001 : (Jvm.Cond.selects "HeatNetwork" ({ cls := "HeatNetwork", name := "refusal", desc := "()I" } : Jvm.MethodName) ({ cls := "HeatNetwork", name := "refusal", desc := "()I" } : Jvm.MethodName)) ∈ TB := tb_mem 1001 (by decide +kernel) (by decide +kernel)
theorem wq_1002 : (Jvm.Cond.code ({ cls := "HeatNetwork", name := "refusal", desc := "()I" } : Jvm.MethodName) prog_1_method_14_code (1 : Nat) (Option.some Jvm.ClassFile.FieldType.int)) ∈ TB := tb_mem 1002 (by decide +kernel) (by decide +kernel)
theorem wq_1007 : (Jvm.Cond.methodLink "HeatNetworkLaw" (61 : Nat) ({ cls := "HeatNetwork", name := "pipe", desc := "(II)I" } : Jvm.MethodName)) ∈ TB := tb_mem 1007 (by decide +kernel) (by decide +kernel)
theorem wq_1008 : (Jvm.Cond.instanceMethod ({ cls := "HeatNetwork", name := "pipe", desc := "(II)I" } : Jvm.MethodName)) ∈ TB := tb_mem 1008 (by decide +kernel) (by decide +kernel)
theorem wq_1009 : (Jvm.Cond.selects "HeatNetwork" ({ cls := "HeatNetwork", name := "pipe", desc := "(II)I" } : Jvm.MethodName) ({ cls := "HeatNetwork", name := "pipe", desc := "(II)I" } : Jvm.MethodName)) ∈ TB := tb_mem 1009 (by decide +kernel) (by decide +kernel)
theorem wq_1010 : (Jvm.Cond.code ({ cls := "HeatNetwork", name := "pipe", desc := "(II)I" } : Jvm.MethodName) prog_1_method_15_code (3 : Nat) (Option.some Jvm.ClassFile.FieldType.int)) ∈ TB := tb_mem 1010 (by decide +kernel) (by decide +kernel)
theorem wq_1014 : (Jvm.Cond.methodLink "HeatNetworkLaw" (64 : Nat) ({ cls := "HeatNetwork", name := "station", desc := "(II)I" } : Jvm.MethodName)) ∈ TB := tb_mem 1014 (by decide +kernel) (by decide +kernel)
theorem wq_1015 : (Jvm.Cond.instanceMethod ({ cls := "HeatNetwork", name := "station", desc := "(II)I" } : Jvm.MethodName)) ∈ TB := tb_mem 1015 (by decide +kernel) (by decide +kernel)
theorem wq_1016 : (Jvm.Cond.selects "HeatNetwork" ({ cls := "HeatNetwork", name := "station", desc := "(II)I" } : Jvm.MethodName) ({ cls := "HeatNetwork", name := "station", desc := "(II)I" } : Jvm.MethodName)) ∈ TB := tb_mem 1016 (by decide +kernel) (by decide +kernel)
theorem wq_1017 : (Jvm.Cond.code ({ cls := "HeatNetwork", name := "station", desc := "(II)I" } : Jvm.MethodName) prog_1_method_16_code (3 : Nat) (Option.some Jvm.ClassFile.FieldType.int)) ∈ TB := tb_mem 1017 (by decide +kernel) (by decide +kernel)
theorem wq_1023 : (Jvm.Cond.methodLink "HeatNetworkLaw" (67 : Nat) ({ cls := "HeatNetwork", name := "meter", desc := "(II)J" } : Jvm.MethodName)) ∈ TB := tb_mem 1023 (by decide +kernel) (by decide +kernel)
theorem wq_1024 : (Jvm.Cond.instanceMethod ({ cls := "HeatNetwork", name := "meter", desc := "(II)J" } : Jvm.MethodName)) ∈ TB := tb_mem 1024 (by decide +kernel) (by decide +kernel)
theorem wq_1025 : (Jvm.Cond.selects "HeatNetwork" ({ cls := "HeatNetwork", name := "meter", desc := "(II)J" } : Jvm.MethodName) ({ cls := "HeatNetwork", name := "meter", desc := "(II)J" } : Jvm.MethodName)) ∈ TB := tb_mem 1025 (by decide +kernel) (by decide +kernel)
theorem wq_1026 : (Jvm.Cond.code ({ cls := "HeatNetwork", name := "meter", desc := "(II)J" } : Jvm.MethodName) prog_1_method_17_code (3 : Nat) (Option.some Jvm.ClassFile.FieldType.long)) ∈ TB := tb_mem 1026 (by decide +kernel) (by decide +kernel)
theorem wq_1030 : (Jvm.Cond.methodLink "HeatNetworkLaw" (71 : Nat) ({ cls := "HeatNetwork", name := "flow", desc := "(I)I" } : Jvm.MethodName)) ∈ TB := tb_mem 1030 (by decide +kernel) (by decide +kernel)
theorem wq_1031 : (Jvm.Cond.instanceMethod ({ cls := "HeatNetwork", name := "flow", desc := "(I)I" } : Jvm.MethodName)) ∈ TB := tb_mem 1031 (by decide +kernel) (by decide +kernel)
theorem wq_1032 : (Jvm.Cond.selects "HeatNetwork" ({ cls := "HeatNetwork", name := "flow", desc := "(I)I" } : Jvm.MethodName) ({ cls := "HeatNetwork", name := "flow", desc := "(I)I" } : Jvm.MethodName)) ∈ TB := tb_mem 1032 (by decide +kernel) (by decide +kernel)
theorem wq_1033 : (Jvm.Cond.code ({ cls := "HeatNetwork", name := "flow", desc := "(I)I" } : Jvm.MethodName) prog_1_method_18_code (2 : Nat) (Option.some Jvm.ClassFile.FieldType.int)) ∈ TB := tb_mem 1033 (by decide +kernel) (by decide +kernel)
theorem wq_1037 : (Jvm.Cond.methodLink "HeatNetworkLaw" (74 : Nat) ({ cls := "HeatNetwork", name := "direction", desc := "(I)C" } : Jvm.MethodName)) ∈ TB := tb_mem 1037 (by decide +kernel) (by decide +kernel)
theorem wq_1038 : (Jvm.Cond.instanceMethod ({ cls := "HeatNetwork", name := "direction", desc := "(I)C" } : Jvm.MethodName)) ∈ TB := tb_mem 1038 (by decide +kernel) (by decide +kernel)
theorem wq_1039 : (Jvm.Cond.selects "HeatNetwork" ({ cls := "HeatNetwork", name := "direction", desc := "(I)C" } : Jvm.MethodName) ({ cls := "HeatNetwork", name := "direction", desc := "(I)C" } : Jvm.MethodName)) ∈ TB := tb_mem 1039 (by decide +kernel) (by decide +kernel)
theorem wq_1040 : (Jvm.Cond.code ({ cls := "HeatNetwork", name := "direction", desc := "(I)C" } : Jvm.MethodName) prog_1_method_19_code (3 : Nat) (Option.some Jvm.ClassFile.FieldType.char)) ∈ TB := tb_mem 1040 (by decide +kernel) (by decide +kernel)
theorem wq_1044 : (Jvm.Cond.methodLink "HeatNetworkLaw" (78 : Nat) ({ cls := "HeatNetwork", name := "temperature", desc := "(IZ)I" } : Jvm.MethodName)) ∈ TB := tb_mem 1044 (by decide +kernel) (by decide +kernel)
theorem wq_1045 : (Jvm.Cond.instanceMethod ({ cls := "HeatNetwork", name := "temperature", desc := "(IZ)I" } : Jvm.MethodName)) ∈ TB := tb_mem 1045 (by decide +kernel) (by decide +kernel)
theorem wq_1046 : (Jvm.Cond.selects "HeatNetwork" ({ cls := "HeatNetwork", name := "temperature", desc := "(IZ)I" } : Jvm.MethodName) ({ cls := "HeatNetwork", name := "temperature", desc := "(IZ)I" } : Jvm.MethodName)) ∈ TB := tb_mem 1046 (by decide +kernel) (by decide +kernel)
theorem wq_1047 : (Jvm.Cond.code ({ cls := "HeatNetwork", name := "temperature", desc := "(IZ)I" } : Jvm.MethodName) prog_1_method_20_code (3 : Nat) (Option.some Jvm.ClassFile.FieldType.int)) ∈ TB := tb_mem 1047 (by decide +kernel) (by decide +kernel)
theorem wq_1056 : (Jvm.Cond.methodLink "HeatNetworkLaw" (82 : Nat) ({ cls := "HeatNetwork", name := "loss", desc := "(I)J" } : Jvm.MethodName)) ∈ TB := tb_mem 1056 (by decide +kernel) (by decide +kernel)
theorem wq_1057 : (Jvm.Cond.instanceMethod ({ cls := "HeatNetwork", name := "loss", desc := "(I)J" } : Jvm.MethodName)) ∈ TB := tb_mem 1057 (by decide +kernel) (by decide +kernel)
theorem wq_1058 : (Jvm.Cond.selects "HeatNetwork" ({ cls := "HeatNetwork", name := "loss", desc := "(I)J" } : Jvm.MethodName) ({ cls := "HeatNetwork", name := "loss", desc := "(I)J" } : Jvm.MethodName)) ∈ TB := tb_mem 1058 (by decide +kernel) (by decide +kernel)
theorem wq_1059 : (Jvm.Cond.code ({ cls := "HeatNetwork", name := "loss", desc := "(I)J" } : Jvm.MethodName) prog_1_method_21_code (2 : Nat) (Option.some Jvm.ClassFile.FieldType.long)) ∈ TB := tb_mem 1059 (by decide +kernel) (by decide +kernel)
theorem wq_1063 : (Jvm.Cond.methodLink "HeatNetworkLaw" (85 : Nat) ({ cls := "HeatNetwork", name := "rounding", desc := "(I)J" } : Jvm.MethodName)) ∈ TB := tb_mem 1063 (by decide +kernel) (by decide +kernel)
theorem wq_1064 : (Jvm.Cond.instanceMethod ({ cls := "HeatNetwork", name := "rounding", desc := "(I)J" } : Jvm.MethodName)) ∈ TB := tb_mem 1064 (by decide +kernel) (by decide +kernel)
theorem wq_1065 : (Jvm.Cond.selects "HeatNetwork" ({ cls := "HeatNetwork", name := "rounding", desc := "(I)J" } : Jvm.MethodName) ({ cls := "HeatNetwork", name := "rounding", desc := "(I)J" } : Jvm.MethodName)) ∈ TB := tb_mem 1065 (by decide +kernel) (by decide +kernel)
theorem wq_1066 : (Jvm.Cond.code ({ cls := "HeatNetwork", name := "rounding", desc := "(I)J" } : Jvm.MethodName) prog_1_method_22_code (2 : Nat) (Option.some Jvm.ClassFile.FieldType.long)) ∈ TB := tb_mem 1066 (by decide +kernel) (by decide +kernel)
theorem wq_1070 : (Jvm.Cond.methodLink "HeatNetworkLaw" (88 : Nat) ({ cls := "HeatNetwork", name := "head", desc := "(I)J" } : Jvm.MethodName)) ∈ TB := tb_mem 1070 (by decide +kernel) (by decide +kernel)
theorem wq_1071 : (Jvm.Cond.instanceMethod ({ cls := "HeatNetwork", name := "head", desc := "(I)J" } : Jvm.MethodName)) ∈ TB := tb_mem 1071 (by decide +kernel) (by decide +kernel)
theorem wq_1072 : (Jvm.Cond.selects "HeatNetwork" ({ cls := "HeatNetwork", name := "head", desc := "(I)J" } : Jvm.MethodName) ({ cls := "HeatNetwork", name := "head", desc := "(I)J" } : Jvm.MethodName)) ∈ TB := tb_mem 1072 (by decide +kernel) (by decide +kernel)
theorem wq_1073 : (Jvm.Cond.code ({ cls := "HeatNetwork", name := "head", desc := "(I)J" } : Jvm.MethodName) prog_1_method_23_code (2 : Nat) (Option.some Jvm.ClassFile.FieldType.long)) ∈ TB := tb_mem 1073 (by decide +kernel) (by decide +kernel)
theorem wq_1082 : (Jvm.Cond.methodLink "HeatNetworkLaw" (91 : Nat) ({ cls := "HeatNetwork", name := "imbalance", desc := "()J" } : Jvm.MethodName)) ∈ TB := tb_mem 1082 (by decide +kernel) (by decide +kernel)
theorem wq_1083 : (Jvm.Cond.instanceMethod ({ cls := "HeatNetwork", name := "imbalance", desc := "()J" } : Jvm.MethodName)) ∈ TB := tb_mem 1083 (by decide +kernel) (by decide +kernel)
theorem wq_1084 : (Jvm.Cond.selects "HeatNetwork" ({ cls := "HeatNetwork", name := "imbalance", desc := "()J" } : Jvm.MethodName) ({ cls := "HeatNetwork", name := "imbalance", desc := "()J" } : Jvm.MethodName)) ∈ TB := tb_mem 1084 (by decide +kernel) (by decide +kernel)
theorem wq_1085 : (Jvm.Cond.code ({ cls := "HeatNetwork", name := "imbalance", desc := "()J" } : Jvm.MethodName) prog_1_method_25_code (1 : Nat) (Option.some Jvm.ClassFile.FieldType.long)) ∈ TB := tb_mem 1085 (by decide +kernel) (by decide +kernel)
theorem wq_1090 : (Jvm.Cond.methodLink "HeatNetworkLaw" (95 : Nat) ({ cls := "HeatNetwork", name := "loop", desc := "(I)I" } : Jvm.MethodName)) ∈ TB := tb_mem 1090 (by decide +kernel) (by decide +kernel)
theorem wq_1091 : (Jvm.Cond.instanceMethod ({ cls := "HeatNetwork", name := "loop", desc := "(I)I" } : Jvm.MethodName)) ∈ TB := tb_mem 1091 (by decide +kernel) (by decide +kernel)
theorem wq_1092 : (Jvm.Cond.selects "HeatNetwork" ({ cls := "HeatNetwork", name := "loop", desc := "(I)I" } : Jvm.MethodName) ({ cls := "HeatNetwork", name := "loop", desc := "(I)I" } : Jvm.MethodName)) ∈ TB := tb_mem 1092 (by decide +kernel) (by decide +kernel)
theorem wq_1093 : (Jvm.Cond.code ({ cls := "HeatNetwork", name := "loop", desc := "(I)I" } : Jvm.MethodName) prog_1_method_27_code (2 : Nat) (Option.some Jvm.ClassFile.FieldType.int)) ∈ TB := tb_mem 1093 (by decide +kernel) (by decide +kernel)
theorem wq_1098 : (Jvm.Cond.methodLink "HeatNetworkLaw" (98 : Nat) ({ cls := "HeatNetwork", name := "distance", desc := "(I)I" } : Jvm.MethodName)) ∈ TB := tb_mem 1098 (by decide +kernel) (by decide +kernel)
theorem wq_1099 : (Jvm.Cond.instanceMethod ({ cls := "HeatNetwork", name := "distance", desc := "(I)I" } : Jvm.MethodName)) ∈ TB := tb_mem 1099 (by decide +kernel) (by decide +kernel)
theorem wq_1100 : (Jvm.Cond.selects "HeatNetwork" ({ cls := "HeatNetwork", name := "distance", desc := "(I)I" } : Jvm.MethodName) ({ cls := "HeatNetwork", name := "distance", desc := "(I)I" } : Jvm.MethodName)) ∈ TB := tb_mem 1100 (by decide +kernel) (by decide +kernel)
theorem wq_1101 : (Jvm.Cond.code ({ cls := "HeatNetwork", name := "distance", desc := "(I)I" } : Jvm.MethodName) prog_1_method_28_code (2 : Nat) (Option.some Jvm.ClassFile.FieldType.int)) ∈ TB := tb_mem 1101 (by decide +kernel) (by decide +kernel)
theorem wq_1105 : (Jvm.Cond.methodLink "HeatNetworkLaw" (101 : Nat) ({ cls := "HeatNetwork", name := "part", desc := "(I)I" } : Jvm.MethodName)) ∈ TB := tb_mem 1105 (by decide +kernel) (by decide +kernel)
theorem wq_1106 : (Jvm.Cond.instanceMethod ({ cls := "HeatNetwork", name := "part", desc := "(I)I" } : Jvm.MethodName)) ∈ TB := tb_mem 1106 (by decide +kernel) (by decide +kernel)
theorem wq_1107 : (Jvm.Cond.selects "HeatNetwork" ({ cls := "HeatNetwork", name := "part", desc := "(I)I" } : Jvm.MethodName) ({ cls := "HeatNetwork", name := "part", desc := "(I)I" } : Jvm.MethodName)) ∈ TB := tb_mem 1107 (by decide +kernel) (by decide +kernel)
theorem wq_1108 : (Jvm.Cond.code ({ cls := "HeatNetwork", name := "part", desc := "(I)I" } : Jvm.MethodName) prog_1_method_29_code (2 : Nat) (Option.some Jvm.ClassFile.FieldType.int)) ∈ TB := tb_mem 1108 (by decide +kernel) (by decide +kernel)
theorem wq_1113 : (Jvm.Cond.methodLink "HeatNetworkLaw" (104 : Nat) ({ cls := "HeatNetwork", name := "isConnected", desc := "(I)Z" } : Jvm.MethodName)) ∈ TB := tb_mem 1113 (by decide +kernel) (by decide +kernel)
theorem wq_1114 : (Jvm.Cond.instanceMethod ({ cls := "HeatNetwork", name := "isConnected", desc := "(I)Z" } : Jvm.MethodName)) ∈ TB := tb_mem 1114 (by decide +kernel) (by decide +kernel)
theorem wq_1115 : (Jvm.Cond.selects "HeatNetwork" ({ cls := "HeatNetwork", name := "isConnected", desc := "(I)Z" } : Jvm.MethodName) ({ cls := "HeatNetwork", name := "isConnected", desc := "(I)Z" } : Jvm.MethodName)) ∈ TB := tb_mem 1115 (by decide +kernel) (by decide +kernel)
theorem wq_1116 : (Jvm.Cond.code ({ cls := "HeatNetwork", name := "isConnected", desc := "(I)Z" } : Jvm.MethodName) prog_1_method_30_code (2 : Nat) (Option.some Jvm.ClassFile.FieldType.boolean)) ∈ TB := tb_mem 1116 (by decide +kernel) (by decide +kernel)
theorem wq_1120 : (Jvm.Cond.methodLink "HeatNetworkLaw" (108 : Nat) ({ cls := "HeatNetwork", name := "suspect", desc := "()I" } : Jvm.MethodName)) ∈ TB := tb_mem 1120 (by decide +kernel) (by decide +kernel)
theorem wq_1121 : (Jvm.Cond.instanceMethod ({ cls := "HeatNetwork", name := "suspect", desc := "()I" } : Jvm.MethodName)) ∈ TB := tb_mem 1121 (by decide +kernel) (by decide +kernel)
theorem wq_1122 : (Jvm.Cond.selects "HeatNetwork" ({ cls := "HeatNetwork", name := "suspect", desc := "()I" } : Jvm.MethodName) ({ cls := "HeatNetwork", name := "suspect", desc := "()I" } : Jvm.MethodName)) ∈ TB := tb_mem 1122 (by decide +kernel) (by decide +kernel)
theorem wq_1123 : (Jvm.Cond.code ({ cls := "HeatNetwork", name := "suspect", desc := "()I" } : Jvm.MethodName) prog_1_method_31_code (7 : Nat) (Option.some Jvm.ClassFile.FieldType.int)) ∈ TB := tb_mem 1123 (by decide +kernel) (by decide +kernel)
theorem wq_1132 : (Jvm.Cond.methodLink "HeatNetworkLaw" (111 : Nat) ({ cls := "HeatNetwork", name := "trial", desc := "(II)J" } : Jvm.MethodName)) ∈ TB := tb_mem 1132 (by decide +kernel) (by decide +kernel)
theorem wq_1133 : (Jvm.Cond.instanceMethod ({ cls := "HeatNetwork", name := "trial", desc := "(II)J" } : Jvm.MethodName)) ∈ TB := tb_mem 1133 (by decide +kernel) (by decide +kernel)
theorem wq_1134 : (Jvm.Cond.selects "HeatNetwork" ({ cls := "HeatNetwork", name := "trial", desc := "(II)J" } : Jvm.MethodName) ({ cls := "HeatNetwork", name := "trial", desc := "(II)J" } : Jvm.MethodName)) ∈ TB := tb_mem 1134 (by decide +kernel) (by decide +kernel)
theorem wq_1135 : (Jvm.Cond.code ({ cls := "HeatNetwork", name := "trial", desc := "(II)J" } : Jvm.MethodName) prog_1_method_32_code (3 : Nat) (Option.some Jvm.ClassFile.FieldType.long)) ∈ TB := tb_mem 1135 (by decide +kernel) (by decide +kernel)
theorem wq_1143 : (Jvm.Cond.methodLink "HeatNetworkLaw" (114 : Nat) ({ cls := "HeatNetwork", name := "bestReturn", desc := "(I)I" } : Jvm.MethodName)) ∈ TB := tb_mem 1143 (by decide +kernel) (by decide +kernel)
theorem wq_1144 : (Jvm.Cond.instanceMethod ({ cls := "HeatNetwork", name := "bestReturn", desc := "(I)I" } : Jvm.MethodName)) ∈ TB := tb_mem 1144 (by decide +kernel) (by decide +kernel)
theorem wq_1145 : (Jvm.Cond.selects "HeatNetwork" ({ cls := "HeatNetwork", name := "bestReturn", desc := "(I)I" } : Jvm.MethodName) ({ cls := "HeatNetwork", name := "bestReturn", desc := "(I)I" } : Jvm.MethodName)) ∈ TB := tb_mem 1145 (by decide +kernel) (by decide +kernel)
theorem wq_1146 : (Jvm.Cond.code ({ cls := "HeatNetwork", name := "bestReturn", desc := "(I)I" } : Jvm.MethodName) prog_1_method_33_code (10 : Nat) (Option.some Jvm.ClassFile.FieldType.int)) ∈ TB := tb_mem 1146 (by decide +kernel) (by decide +kernel)
theorem wq_1151 : (Jvm.Cond.methodLink "HeatNetworkLaw" (117 : Nat) ({ cls := "HeatNetwork", name := "account", desc := "(I)J" } : Jvm.MethodName)) ∈ TB := tb_mem 1151 (by decide +kernel) (by decide +kernel)
theorem wq_1152 : (Jvm.Cond.instanceMethod ({ cls := "HeatNetwork", name := "account", desc := "(I)J" } : Jvm.MethodName)) ∈ TB := tb_mem 1152 (by decide +kernel) (by decide +kernel)
theorem wq_1153 : (Jvm.Cond.selects "HeatNetwork" ({ cls := "HeatNetwork", name := "account", desc := "(I)J" } : Jvm.MethodName) ({ cls := "HeatNetwork", name := "account", desc := "(I)J" } : Jvm.MethodName)) ∈ TB := tb_mem 1153 (by decide +kernel) (by decide +kernel)
theorem wq_1154 : (Jvm.Cond.code ({ cls := "HeatNetwork", name := "account", desc := "(I)J" } : Jvm.MethodName) prog_1_method_34_code (2 : Nat) (Option.some Jvm.ClassFile.FieldType.long)) ∈ TB := tb_mem 1154 (by decide +kernel) (by decide +kernel)
theorem wq_1161 : (Jvm.Cond.classLink "HeatNetworkLaw" (124 : Nat) "java/lang/ArithmeticException") ∈ TB := tb_mem 1161 (by decide +kernel) (by decide +kernel)
theorem wq_1175 : (Jvm.Cond.methodLink "HeatNetworkLaw" (120 : Nat) ({ cls := "HeatNetwork", name := "efficiency", desc := "()D" } : Jvm.MethodName)) ∈ TB := tb_mem 1175 (by decide +kernel) (by decide +kernel)
theorem wq_1176 : (Jvm.Cond.instanceMethod ({ cls := "HeatNetwork", name := "efficiency", desc := "()D" } : Jvm.MethodName)) ∈ TB := tb_mem 1176 (by decide +kernel) (by decide +kernel)
theorem wq_1177 : (Jvm.Cond.selects "HeatNetwork" ({ cls := "HeatNetwork", name := "efficiency", desc := "()D" } : Jvm.MethodName) ({ cls := "HeatNetwork", name := "efficiency", desc := "()D" } : Jvm.MethodName)) ∈ TB := tb_mem 1177 (by decide +kernel) (by decide +kernel)
theorem wq_1178 : (Jvm.Cond.code ({ cls := "HeatNetwork", name := "efficiency", desc := "()D" } : Jvm.MethodName) prog_1_method_35_code (3 : Nat) (Option.some Jvm.ClassFile.FieldType.double)) ∈ TB := tb_mem 1178 (by decide +kernel) (by decide +kernel)
theorem wq_1185 : (Jvm.Cond.methodLink "HeatNetworkLaw" (126 : Nat) ({ cls := "HeatNetwork", name := "count", desc := "(I)I" } : Jvm.MethodName)) ∈ TB := tb_mem 1185 (by decide +kernel) (by decide +kernel)
theorem wq_1186 : (Jvm.Cond.instanceMethod ({ cls := "HeatNetwork", name := "count", desc := "(I)I" } : Jvm.MethodName)) ∈ TB := tb_mem 1186 (by decide +kernel) (by decide +kernel)
theorem wq_1187 : (Jvm.Cond.selects "HeatNetwork" ({ cls := "HeatNetwork", name := "count", desc := "(I)I" } : Jvm.MethodName) ({ cls := "HeatNetwork", name := "count", desc := "(I)I" } : Jvm.MethodName)) ∈ TB := tb_mem 1187 (by decide +kernel) (by decide +kernel)
theorem wq_1188 : (Jvm.Cond.code ({ cls := "HeatNetwork", name := "count", desc := "(I)I" } : Jvm.MethodName) prog_1_method_37_code (2 : Nat) (Option.some Jvm.ClassFile.FieldType.int)) ∈ TB := tb_mem 1188 (by decide +kernel) (by decide +kernel)
theorem wq_1192 : (Jvm.Cond.methodLink "HeatNetworkLaw" (129 : Nat) ({ cls := "HeatNetwork", name := "undo", desc := "()I" } : Jvm.MethodName)) ∈ TB := tb_mem 1192 (by decide +kernel) (by decide +kernel)
theorem wq_1193 : (Jvm.Cond.instanceMethod ({ cls := "HeatNetwork", name := "undo", desc := "()I" } : Jvm.MethodName)) ∈ TB := tb_mem 1193 (by decide +kernel) (by decide +kernel)
theorem wq_1194 : (Jvm.Cond.selects "HeatNetwork" ({ cls := "HeatNetwork", name := "undo", desc := "()I" } : Jvm.MethodName) ({ cls := "HeatNetwork", name := "undo", desc := "()I" } : Jvm.MethodName)) ∈ TB := tb_mem 1194 (by decide +kernel) (by decide +kernel)
theorem wq_1195 : (Jvm.Cond.code ({ cls := "HeatNetwork", name := "undo", desc := "()I" } : Jvm.MethodName) prog_1_method_38_code (1 : Nat) (Option.some Jvm.ClassFile.FieldType.int)) ∈ TB := tb_mem 1195 (by decide +kernel) (by decide +kernel)
theorem wq_1200 : (Jvm.Cond.methodLink "HeatNetworkLaw" (132 : Nat) ({ cls := "HeatNetwork", name := "restore", desc := "()I" } : Jvm.MethodName)) ∈ TB := tb_mem 1200 (by decide +kernel) (by decide +kernel)
theorem wq_1201 : (Jvm.Cond.instanceMethod ({ cls := "HeatNetwork", name := "restore", desc := "()I" } : Jvm.MethodName)) ∈ TB := tb_mem 1201 (by decide +kernel) (by decide +kernel)
theorem wq_1202 : (Jvm.Cond.selects "HeatNetwork" ({ cls := "HeatNetwork", name := "restore", desc := "()I" } : Jvm.MethodName) ({ cls := "HeatNetwork", name := "restore", desc := "()I" } : Jvm.MethodName)) ∈ TB := tb_mem 1202 (by decide +kernel) (by decide +kernel)
theorem wq_1203 : (Jvm.Cond.code ({ cls := "HeatNetwork", name := "restore", desc := "()I" } : Jvm.MethodName) prog_1_method_40_code (1 : Nat) (Option.some Jvm.ClassFile.FieldType.int)) ∈ TB := tb_mem 1203 (by decide +kernel) (by decide +kernel)
theorem nbc_689 : (Jvm.Cond.castable "java/lang/IndexOutOfBoundsException" "java/lang/IndexOutOfBoundsException") ∈ NB := List.mem_filter.mpr ⟨List.mem_of_getElem? (i := 689) (by decide +kernel), rfl⟩
theorem nbc_702 : (Jvm.Cond.castable "java/lang/IllegalArgumentException" "java/lang/IllegalArgumentException") ∈ NB := List.mem_filter.mpr ⟨List.mem_of_getElem? (i := 702) (by decide +kernel), rfl⟩
theorem nbc_770 : (Jvm.Cond.castable "java/lang/UnsupportedOperationException" "java/lang/UnsupportedOperationException") ∈ NB := List.mem_filter.mpr ⟨List.mem_of_getElem? (i := 770) (by decide +kernel), rfl⟩
theorem nbc_854 : (Jvm.Cond.castable "java/util/NoSuchElementException" "java/util/NoSuchElementException") ∈ NB := List.mem_filter.mpr ⟨List.mem_of_getElem? (i := 854) (by decide +kernel), rfl⟩
theorem nbc_936 : (Jvm.Cond.castable "java/lang/IllegalStateException" "java/lang/IllegalStateException") ∈ NB := List.mem_filter.mpr ⟨List.mem_of_getElem? (i := 936) (by decide +kernel), rfl⟩
theorem nbc_1173 : (Jvm.Cond.castable "java/lang/ArithmeticException" "java/lang/ArithmeticException") ∈ NB := List.mem_filter.mpr ⟨List.mem_of_getElem? (i := 1173) (by decide +kernel), rfl⟩
