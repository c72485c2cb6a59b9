theorem dX0_init_0 : decode cX0_init 0 = .ok (.aload_n 0, 1) := by decide +kernel
theorem dX0_init_1 : decode cX0_init 1 = .ok (.invokespecial 3, 3) := by decide +kernel
theorem dX0_init_4 : decode cX0_init 4 = .ok (.aload_n 0, 1) := by decide +kernel
theorem dX0_init_5 : decode cX0_init 5 = .ok (.bipush 50, 2) := by decide +kernel
theorem dX0_init_7 : decode cX0_init 7 = .ok (.putfield 9, 3) := by decide +kernel
theorem dX0_init_10 : decode cX0_init 10 = .ok (.aload_n 0, 1) := by decide +kernel
theorem dX0_init_11 : decode cX0_init 11 = .ok (.iconst 0, 1) := by decide +kernel
theorem dX0_init_12 : decode cX0_init 12 = .ok (.putfield 15, 3) := by decide +kernel
theorem dX0_init_15 : decode cX0_init 15 = .ok (.aload_n 0, 1) := by decide +kernel
theorem dX0_init_16 : decode cX0_init 16 = .ok (.aconst_null, 1) := by decide +kernel
theorem dX0_init_17 : decode cX0_init 17 = .ok (.putfield 18, 3) := by decide +kernel
theorem dX0_init_20 : decode cX0_init 20 = .ok (.aload_n 0, 1) := by decide +kernel
theorem dX0_init_21 : decode cX0_init 21 = .ok (.iconst (-1), 1) := by decide +kernel
theorem dX0_init_22 : decode cX0_init 22 = .ok (.putfield 22, 3) := by decide +kernel
theorem dX0_init_25 : decode cX0_init 25 = .ok (.aload_n 0, 1) := by decide +kernel
theorem dX0_init_26 : decode cX0_init 26 = .ok (.iconst 0, 1) := by decide +kernel
theorem dX0_init_27 : decode cX0_init 27 = .ok (.putfield 25, 3) := by decide +kernel
theorem dX0_init_30 : decode cX0_init 30 = .ok (.aload_n 0, 1) := by decide +kernel
theorem dX0_init_31 : decode cX0_init 31 = .ok (.iconst 0, 1) := by decide +kernel
theorem dX0_init_32 : decode cX0_init 32 = .ok (.putfield 28, 3) := by decide +kernel
theorem dX0_init_35 : decode cX0_init 35 = .ok (.aload_n 0, 1) := by decide +kernel
theorem dX0_init_36 : decode cX0_init 36 = .ok (.iload_n 1, 1) := by decide +kernel
theorem dX0_init_37 : decode cX0_init 37 = .ok (.putfield 31, 3) := by decide +kernel
theorem dX0_init_40 : decode cX0_init 40 = .ok (.aload_n 0, 1) := by decide +kernel
theorem dX0_init_41 : decode cX0_init 41 = .ok (.iload_n 2, 1) := by decide +kernel
theorem dX0_init_42 : decode cX0_init 42 = .ok (.putfield 34, 3) := by decide +kernel
theorem dX0_init_45 : decode cX0_init 45 = .ok (.aload_n 0, 1) := by decide +kernel
theorem dX0_init_46 : decode cX0_init 46 = .ok (.iload_n 3, 1) := by decide +kernel
theorem dX0_init_47 : decode cX0_init 47 = .ok (.putfield 37, 3) := by decide +kernel
theorem dX0_init_50 : decode cX0_init 50 = .ok (.return_, 1) := by decide +kernel
theorem dX0_putOnOwnHat_0 : decode cX0_putOnOwnHat 0 = .ok (.aload_n 0, 1) := by decide +kernel
theorem dX0_putOnOwnHat_1 : decode cX0_putOnOwnHat 1 = .ok (.aload_n 0, 1) := by decide +kernel
theorem dX0_putOnOwnHat_2 : decode cX0_putOnOwnHat 2 = .ok (.getfield 37, 3) := by decide +kernel
theorem dX0_putOnOwnHat_5 : decode cX0_putOnOwnHat 5 = .ok (.ifCond .le 7, 3) := by decide +kernel
theorem dX0_putOnOwnHat_8 : decode cX0_putOnOwnHat 8 = .ok (.aload_n 0, 1) := by decide +kernel
theorem dX0_putOnOwnHat_9 : decode cX0_putOnOwnHat 9 = .ok (.goto 4, 3) := by decide +kernel
theorem dX0_putOnOwnHat_12 : decode cX0_putOnOwnHat 12 = .ok (.aconst_null, 1) := by decide +kernel
theorem dX0_putOnOwnHat_13 : decode cX0_putOnOwnHat 13 = .ok (.putfield 18, 3) := by decide +kernel
theorem dX0_putOnOwnHat_16 : decode cX0_putOnOwnHat 16 = .ok (.return_, 1) := by decide +kernel
theorem dX0_wearsOwnHat_0 : decode cX0_wearsOwnHat 0 = .ok (.aload_n 0, 1) := by decide +kernel
theorem dX0_wearsOwnHat_1 : decode cX0_wearsOwnHat 1 = .ok (.getfield 18, 3) := by decide +kernel
theorem dX0_wearsOwnHat_4 : decode cX0_wearsOwnHat 4 = .ok (.aload_n 0, 1) := by decide +kernel
theorem dX0_wearsOwnHat_5 : decode cX0_wearsOwnHat 5 = .ok (.if_acmp .ne 7, 3) := by decide +kernel
theorem dX0_wearsOwnHat_8 : decode cX0_wearsOwnHat 8 = .ok (.iconst 1, 1) := by decide +kernel
theorem dX0_wearsOwnHat_9 : decode cX0_wearsOwnHat 9 = .ok (.goto 4, 3) := by decide +kernel
theorem dX0_wearsOwnHat_12 : decode cX0_wearsOwnHat 12 = .ok (.iconst 0, 1) := by decide +kernel
theorem dX0_wearsOwnHat_13 : decode cX0_wearsOwnHat 13 = .ok (.ireturn, 1) := by decide +kernel
theorem dX0_wearsBorrowedHat_0 : decode cX0_wearsBorrowedHat 0 = .ok (.aload_n 0, 1) := by decide +kernel
theorem dX0_wearsBorrowedHat_1 : decode cX0_wearsBorrowedHat 1 = .ok (.getfield 18, 3) := by decide +kernel
theorem dX0_wearsBorrowedHat_4 : decode cX0_wearsBorrowedHat 4 = .ok (.ifnull 15, 3) := by decide +kernel
theorem dX0_wearsBorrowedHat_7 : decode cX0_wearsBorrowedHat 7 = .ok (.aload_n 0, 1) := by decide +kernel
theorem dX0_wearsBorrowedHat_8 : decode cX0_wearsBorrowedHat 8 = .ok (.getfield 18, 3) := by decide +kernel
theorem dX0_wearsBorrowedHat_11 : decode cX0_wearsBorrowedHat 11 = .ok (.aload_n 0, 1) := by decide +kernel
theorem dX0_wearsBorrowedHat_12 : decode cX0_wearsBorrowedHat 12 = .ok (.if_acmp .eq 7, 3) := by decide +kernel
theorem dX0_wearsBorrowedHat_15 : decode cX0_wearsBorrowedHat 15 = .ok (.iconst 1, 1) := by decide +kernel
theorem dX0_wearsBorrowedHat_16 : decode cX0_wearsBorrowedHat 16 = .ok (.goto 4, 3) := by decide +kernel
theorem dX0_wearsBorrowedHat_19 : decode cX0_wearsBorrowedHat 19 = .ok (.iconst 0, 1) := by decide +kernel
theorem dX0_wearsBorrowedHat_20 : decode cX0_wearsBorrowedHat 20 = .ok (.ireturn, 1) := by decide +kernel
theorem dX0_numberOfHatOwner_0 : decode cX0_numberOfHatOwner 0 = .ok (.aload_n 0, 1) := by decide +kernel
theorem dX0_numberOfHatOwner_1 : decode cX0_numberOfHatOwner 1 = .ok (.getfield 18, 3) := by decide +kernel
theorem dX0_numberOfHatOwner_4 : decode cX0_numberOfHatOwner 4 = .ok (.ifnonnull 7, 3) := by decide +kernel
theorem dX0_numberOfHatOwner_7 : decode cX0_numberOfHatOwner 7 = .ok (.iconst (-1), 1) := by decide +kernel
theorem dX0_numberOfHatOwner_8 : decode cX0_numberOfHatOwner 8 = .ok (.goto 10, 3) := by decide +kernel
theorem dX0_numberOfHatOwner_11 : decode cX0_numberOfHatOwner 11 = .ok (.aload_n 0, 1) := by decide +kernel
theorem dX0_numberOfHatOwner_12 : decode cX0_numberOfHatOwner 12 = .ok (.getfield 18, 3) := by decide +kernel
theorem dX0_numberOfHatOwner_15 : decode cX0_numberOfHatOwner 15 = .ok (.getfield 31, 3) := by decide +kernel
theorem dX0_numberOfHatOwner_18 : decode cX0_numberOfHatOwner 18 = .ok (.ireturn, 1) := by decide +kernel
theorem dX0_heightOfWornHat_0 : decode cX0_heightOfWornHat 0 = .ok (.aload_n 0, 1) := by decide +kernel
theorem dX0_heightOfWornHat_1 : decode cX0_heightOfWornHat 1 = .ok (.getfield 18, 3) := by decide +kernel
theorem dX0_heightOfWornHat_4 : decode cX0_heightOfWornHat 4 = .ok (.ifnonnull 7, 3) := by decide +kernel
theorem dX0_heightOfWornHat_7 : decode cX0_heightOfWornHat 7 = .ok (.iconst 0, 1) := by decide +kernel
theorem dX0_heightOfWornHat_8 : decode cX0_heightOfWornHat 8 = .ok (.goto 10, 3) := by decide +kernel
theorem dX0_heightOfWornHat_11 : decode cX0_heightOfWornHat 11 = .ok (.aload_n 0, 1) := by decide +kernel
theorem dX0_heightOfWornHat_12 : decode cX0_heightOfWornHat 12 = .ok (.getfield 18, 3) := by decide +kernel
theorem dX0_heightOfWornHat_15 : decode cX0_heightOfWornHat 15 = .ok (.getfield 37, 3) := by decide +kernel
theorem dX0_heightOfWornHat_18 : decode cX0_heightOfWornHat 18 = .ok (.ireturn, 1) := by decide +kernel
set_option maxRecDepth 20000 in
theorem ggX0_shadowAt_X0_heightOfWornHat : GoodIn wsX0_shadowAt wsX0_heightOfWornHat := goodIn_r _ [7, 8, 9, 17, 18, 19, 20, 21, 22, 23, 24, 25] (by decide +kernel) (by decide +kernel)
set_option maxRecDepth 20000 in
theorem gX0_shadowAt_X0_heightOfWornHat : GoodIn wsX0_shadowAt (wsV RX0 40 RX0 yX0_heightOfWornHat wsX0_heightOfWornHat) := goodIn_app (goodIn_of _ (by decide +kernel)) ggX0_shadowAt_X0_heightOfWornHat
set_option maxRecDepth 20000 in
theorem ggX0_shadowAt_X1_naturalShadow : GoodIn wsX0_shadowAt wsX1_naturalShadow := goodIn_r _ [12, 13, 14, 15, 16] (by decide +kernel) (by decide +kernel)
set_option maxRecDepth 20000 in
theorem gX0_shadowAt_X1_naturalShadow_n44 : GoodIn wsX0_shadowAt (wsX1_naturalShadow) := ggX0_shadowAt_X1_naturalShadow
theorem dX0_shadowAt_0 : decode cX0_shadowAt 0 = .ok (.aload_n 0, 1) := by decide +kernel
theorem dX0_shadowAt_1 : decode cX0_shadowAt 1 = .ok (.getfield 34, 3) := by decide +kernel
theorem dX0_shadowAt_4 : decode cX0_shadowAt 4 = .ok (.aload_n 0, 1) := by decide +kernel
theorem dX0_shadowAt_5 : decode cX0_shadowAt 5 = .ok (.invokevirtual 40, 3) := by decide +kernel
theorem dX0_shadowAt_8 : decode cX0_shadowAt 8 = .ok (.iadd, 1) := by decide +kernel
theorem dX0_shadowAt_9 : decode cX0_shadowAt 9 = .ok (.iload_n 1, 1) := by decide +kernel
theorem dX0_shadowAt_10 : decode cX0_shadowAt 10 = .ok (.invokestatic 44, 3) := by decide +kernel
theorem dX0_shadowAt_13 : decode cX0_shadowAt 13 = .ok (.iconst 3, 1) := by decide +kernel
theorem dX0_shadowAt_14 : decode cX0_shadowAt 14 = .ok (.aload_n 0, 1) := by decide +kernel
theorem dX0_shadowAt_15 : decode cX0_shadowAt 15 = .ok (.getfield 15, 3) := by decide +kernel
theorem dX0_shadowAt_18 : decode cX0_shadowAt 18 = .ok (.imul, 1) := by decide +kernel
theorem dX0_shadowAt_19 : decode cX0_shadowAt 19 = .ok (.iadd, 1) := by decide +kernel
theorem dX0_shadowAt_20 : decode cX0_shadowAt 20 = .ok (.ireturn, 1) := by decide +kernel
set_option maxRecDepth 20000 in
theorem ggX0_honestShadowAt_X1_naturalShadow : GoodIn wsX0_honestShadowAt wsX1_naturalShadow := goodIn_r _ [5, 6, 7, 8, 9] (by decide +kernel) (by decide +kernel)
set_option maxRecDepth 20000 in
theorem gX0_honestShadowAt_X1_naturalShadow_n44 : GoodIn wsX0_honestShadowAt (wsX1_naturalShadow) := ggX0_honestShadowAt_X1_naturalShadow
theorem dX0_honestShadowAt_0 : decode cX0_honestShadowAt 0 = .ok (.aload_n 0, 1) := by decide +kernel
theorem dX0_honestShadowAt_1 : decode cX0_honestShadowAt 1 = .ok (.getfield 34, 3) := by decide +kernel
theorem dX0_honestShadowAt_4 : decode cX0_honestShadowAt 4 = .ok (.aload_n 0, 1) := by decide +kernel
theorem dX0_honestShadowAt_5 : decode cX0_honestShadowAt 5 = .ok (.getfield 37, 3) := by decide +kernel
theorem dX0_honestShadowAt_8 : decode cX0_honestShadowAt 8 = .ok (.iadd, 1) := by decide +kernel
theorem dX0_honestShadowAt_9 : decode cX0_honestShadowAt 9 = .ok (.iload_n 1, 1) := by decide +kernel
theorem dX0_honestShadowAt_10 : decode cX0_honestShadowAt 10 = .ok (.invokestatic 44, 3) := by decide +kernel
theorem dX0_honestShadowAt_13 : decode cX0_honestShadowAt 13 = .ok (.ireturn, 1) := by decide +kernel
theorem dX0_hasCertificate_0 : decode cX0_hasCertificate 0 = .ok (.aload_n 0, 1) := by decide +kernel
theorem dX0_hasCertificate_1 : decode cX0_hasCertificate 1 = .ok (.getfield 22, 3) := by decide +kernel
theorem dX0_hasCertificate_4 : decode cX0_hasCertificate 4 = .ok (.iconst (-1), 1) := by decide +kernel
theorem dX0_hasCertificate_5 : decode cX0_hasCertificate 5 = .ok (.if_icmp .eq 7, 3) := by decide +kernel
theorem dX0_hasCertificate_8 : decode cX0_hasCertificate 8 = .ok (.iconst 1, 1) := by decide +kernel
theorem dX0_hasCertificate_9 : decode cX0_hasCertificate 9 = .ok (.goto 4, 3) := by decide +kernel
theorem dX0_hasCertificate_12 : decode cX0_hasCertificate 12 = .ok (.iconst 0, 1) := by decide +kernel
theorem dX0_hasCertificate_13 : decode cX0_hasCertificate 13 = .ok (.ireturn, 1) := by decide +kernel
set_option maxRecDepth 20000 in
theorem ggX0_hasHonestCertificate_X0_hasCertificate : GoodIn wsX0_hasHonestCertificate wsX0_hasCertificate := goodIn_r _ [7, 1, 21, 22, 23, 24, 25, 26, 27, 28, 29] (by decide +kernel) (by decide +kernel)
set_option maxRecDepth 20000 in
theorem gX0_hasHonestCertificate_X0_hasCertificate : GoodIn wsX0_hasHonestCertificate (wsV RX0 48 RX0 yX0_hasCertificate wsX0_hasCertificate) := goodIn_app (goodIn_of _ (by decide +kernel)) ggX0_hasHonestCertificate_X0_hasCertificate
set_option maxRecDepth 20000 in
theorem ggX0_hasHonestCertificate_X0_honestShadowAt : GoodIn wsX0_hasHonestCertificate wsX0_honestShadowAt := goodIn_r _ [11, 12, 13, 14, 15, 16, 17, 18, 19, 20, 21, 22, 23, 24, 25, 26, 27, 28, 29] (by decide +kernel) (by decide +kernel)
set_option maxRecDepth 20000 in
theorem gX0_hasHonestCertificate_X0_honestShadowAt : GoodIn wsX0_hasHonestCertificate (wsV RX0 52 RX0 yX0_honestShadowAt wsX0_honestShadowAt) := goodIn_app (goodIn_of _ (by decide +kernel)) ggX0_hasHonestCertificate_X0_honestShadowAt
theorem dX0_hasHonestCertificate_0 : decode cX0_hasHonestCertificate 0 = .ok (.aload_n 0, 1) := by decide +kernel
theorem dX0_hasHonestCertificate_1 : decode cX0_hasHonestCertificate 1 = .ok (.invokevirtual 48, 3) := by decide +kernel
theorem dX0_hasHonestCertificate_4 : decode cX0_hasHonestCertificate 4 = .ok (.ifCond .eq 22, 3) := by decide +kernel
theorem dX0_hasHonestCertificate_7 : decode cX0_hasHonestCertificate 7 = .ok (.aload_n 0, 1) := by decide +kernel
theorem dX0_hasHonestCertificate_8 : decode cX0_hasHonestCertificate 8 = .ok (.getfield 22, 3) := by decide +kernel
theorem dX0_hasHonestCertificate_11 : decode cX0_hasHonestCertificate 11 = .ok (.aload_n 0, 1) := by decide +kernel
theorem dX0_hasHonestCertificate_12 : decode cX0_hasHonestCertificate 12 = .ok (.aload_n 0, 1) := by decide +kernel
theorem dX0_hasHonestCertificate_13 : decode cX0_hasHonestCertificate 13 = .ok (.getfield 25, 3) := by decide +kernel
theorem dX0_hasHonestCertificate_16 : decode cX0_hasHonestCertificate 16 = .ok (.invokevirtual 52, 3) := by decide +kernel
theorem dX0_hasHonestCertificate_19 : decode cX0_hasHonestCertificate 19 = .ok (.if_icmp .ne 7, 3) := by decide +kernel
theorem dX0_hasHonestCertificate_22 : decode cX0_hasHonestCertificate 22 = .ok (.iconst 1, 1) := by decide +kernel
theorem dX0_hasHonestCertificate_23 : decode cX0_hasHonestCertificate 23 = .ok (.goto 4, 3) := by decide +kernel
theorem dX0_hasHonestCertificate_26 : decode cX0_hasHonestCertificate 26 = .ok (.iconst 0, 1) := by decide +kernel
theorem dX0_hasHonestCertificate_27 : decode cX0_hasHonestCertificate 27 = .ok (.ireturn, 1) := by decide +kernel
theorem dX0_isOut_0 : decode cX0_isOut 0 = .ok (.aload_n 0, 1) := by decide +kernel
theorem dX0_isOut_1 : decode cX0_isOut 1 = .ok (.getfield 28, 3) := by decide +kernel
theorem dX0_isOut_4 : decode cX0_isOut 4 = .ok (.iconst 3, 1) := by decide +kernel
theorem dX0_isOut_5 : decode cX0_isOut 5 = .ok (.if_icmp .lt 7, 3) := by decide +kernel
theorem dX0_isOut_8 : decode cX0_isOut 8 = .ok (.iconst 1, 1) := by decide +kernel
theorem dX0_isOut_9 : decode cX0_isOut 9 = .ok (.goto 4, 3) := by decide +kernel
theorem dX0_isOut_12 : decode cX0_isOut 12 = .ok (.iconst 0, 1) := by decide +kernel
theorem dX0_isOut_13 : decode cX0_isOut 13 = .ok (.ireturn, 1) := by decide +kernel
theorem dX0_fineForLamp_0 : decode cX0_fineForLamp 0 = .ok (.iconst 2, 1) := by decide +kernel
theorem dX0_fineForLamp_1 : decode cX0_fineForLamp 1 = .ok (.aload_n 0, 1) := by decide +kernel
theorem dX0_fineForLamp_2 : decode cX0_fineForLamp 2 = .ok (.getfield 15, 3) := by decide +kernel
theorem dX0_fineForLamp_5 : decode cX0_fineForLamp 5 = .ok (.imul, 1) := by decide +kernel
theorem dX0_fineForLamp_6 : decode cX0_fineForLamp 6 = .ok (.ireturn, 1) := by decide +kernel
set_option maxRecDepth 20000 in
theorem ggX0_gainOfCertificate_X0_hasCertificate : GoodIn wsX0_gainOfCertificate wsX0_hasCertificate := goodIn_r _ [5, 6, 25, 26, 27, 28, 29, 30, 31, 32, 33] (by decide +kernel) (by decide +kernel)
set_option maxRecDepth 20000 in
theorem gX0_gainOfCertificate_X0_hasCertificate : GoodIn wsX0_gainOfCertificate (wsV RX0 48 RX0 yX0_hasCertificate wsX0_hasCertificate) := goodIn_app (goodIn_of _ (by decide +kernel)) ggX0_gainOfCertificate_X0_hasCertificate
set_option maxRecDepth 20000 in
theorem ggX0_gainOfCertificate_X0_hasHonestCertificate : GoodIn wsX0_gainOfCertificate wsX0_hasHonestCertificate := goodIn_r _ [10, 6, 11, 1, 2, 3, 4, 5, 12, 13, 14, 15, 16, 17, 18, 19, 20, 21, 22, 23, 24, 25, 26, 27, 28, 29, 30, 31, 32, 33] (by decide +kernel) (by decide +kernel)
set_option maxRecDepth 20000 in
theorem gX0_gainOfCertificate_X0_hasHonestCertificate : GoodIn wsX0_gainOfCertificate (wsV RX0 56 RX0 yX0_hasHonestCertificate wsX0_hasHonestCertificate) := goodIn_app (goodIn_of _ (by decide +kernel)) ggX0_gainOfCertificate_X0_hasHonestCertificate
theorem dX0_gainOfCertificate_0 : decode cX0_gainOfCertificate 0 = .ok (.aload_n 0, 1) := by decide +kernel
theorem dX0_gainOfCertificate_1 : decode cX0_gainOfCertificate 1 = .ok (.invokevirtual 48, 3) := by decide +kernel
theorem dX0_gainOfCertificate_4 : decode cX0_gainOfCertificate 4 = .ok (.ifCond .ne 5, 3) := by decide +kernel
theorem dX0_gainOfCertificate_7 : decode cX0_gainOfCertificate 7 = .ok (.iconst 0, 1) := by decide +kernel
theorem dX0_gainOfCertificate_8 : decode cX0_gainOfCertificate 8 = .ok (.ireturn, 1) := by decide +kernel
theorem dX0_gainOfCertificate_9 : decode cX0_gainOfCertificate 9 = .ok (.aload_n 0, 1) := by decide +kernel
theorem dX0_gainOfCertificate_10 : decode cX0_gainOfCertificate 10 = .ok (.invokevirtual 56, 3) := by decide +kernel
theorem dX0_gainOfCertificate_13 : decode cX0_gainOfCertificate 13 = .ok (.ifCond .eq 7, 3) := by decide +kernel
theorem dX0_gainOfCertificate_16 : decode cX0_gainOfCertificate 16 = .ok (.iconst 3, 1) := by decide +kernel
theorem dX0_gainOfCertificate_17 : decode cX0_gainOfCertificate 17 = .ok (.goto 5, 3) := by decide +kernel
theorem dX0_gainOfCertificate_20 : decode cX0_gainOfCertificate 20 = .ok (.bipush (-10), 2) := by decide +kernel
theorem dX0_gainOfCertificate_22 : decode cX0_gainOfCertificate 22 = .ok (.ireturn, 1) := by decide +kernel
set_option maxRecDepth 20000 in
theorem ggX0_gainAtAudit_X0_gainOfCertificate : GoodIn wsX0_gainAtAudit wsX0_gainOfCertificate := goodIn_r _ [5, 6, 7, 8, 4, 9, 10, 11, 12, 13, 14, 15, 16, 17, 18, 19, 20, 21, 22, 23, 24, 25, 26, 27, 28, 34, 35, 36, 37, 38, 39, 40, 41, 42] (by decide +kernel) (by decide +kernel)
set_option maxRecDepth 20000 in
theorem gX0_gainAtAudit_X0_gainOfCertificate : GoodIn wsX0_gainAtAudit (wsV RX0 59 RX0 yX0_gainOfCertificate wsX0_gainOfCertificate) := goodIn_app (goodIn_of _ (by decide +kernel)) ggX0_gainAtAudit_X0_gainOfCertificate
set_option maxRecDepth 20000 in
theorem ggX0_gainAtAudit_X0_fineForLamp : GoodIn wsX0_gainAtAudit wsX0_fineForLamp := goodIn_r _ [32, 33, 34, 35, 36, 37, 38, 39, 40, 41, 42] (by decide +kernel) (by decide +kernel)
set_option maxRecDepth 20000 in
theorem gX0_gainAtAudit_X0_fineForLamp : GoodIn wsX0_gainAtAudit (wsV RX0 62 RX0 yX0_fineForLamp wsX0_fineForLamp) := goodIn_app (goodIn_of _ (by decide +kernel)) ggX0_gainAtAudit_X0_fineForLamp
theorem dX0_gainAtAudit_0 : decode cX0_gainAtAudit 0 = .ok (.aload_n 0, 1) := by decide +kernel
theorem dX0_gainAtAudit_1 : decode cX0_gainAtAudit 1 = .ok (.invokevirtual 59, 3) := by decide +kernel
theorem dX0_gainAtAudit_4 : decode cX0_gainAtAudit 4 = .ok (.aload_n 0, 1) := by decide +kernel
theorem dX0_gainAtAudit_5 : decode cX0_gainAtAudit 5 = .ok (.invokevirtual 62, 3) := by decide +kernel
theorem dX0_gainAtAudit_8 : decode cX0_gainAtAudit 8 = .ok (.isub, 1) := by decide +kernel
theorem dX0_gainAtAudit_9 : decode cX0_gainAtAudit 9 = .ok (.ireturn, 1) := by decide +kernel
