theorem ft0_0 : jsk (jfty 0 0) = 2 := by decide +kernel
theorem nz0_0 : ¬ jfty 0 0 = 3 := by decide +kernel
theorem ft0_1 : jsk (jfty 0 1) = 0 := by decide +kernel
theorem nz0_1 : ¬ jfty 0 1 = 3 := by decide +kernel
theorem ft0_2 : jsk (jfty 0 2) = 0 := by decide +kernel
theorem nz0_2 : ¬ jfty 0 2 = 3 := by decide +kernel
theorem ft5_0 : jsk (jfty 5 0) = 0 := by decide +kernel
theorem nz5_0 : ¬ jfty 5 0 = 3 := by decide +kernel
theorem ft5_1 : jsk (jfty 5 1) = 0 := by decide +kernel
theorem nz5_1 : ¬ jfty 5 1 = 3 := by decide +kernel
theorem ft5_2 : jsk (jfty 5 2) = 0 := by decide +kernel
theorem nz5_2 : ¬ jfty 5 2 = 3 := by decide +kernel
theorem ft5_3 : jsk (jfty 5 3) = 0 := by decide +kernel
theorem nz5_3 : ¬ jfty 5 3 = 3 := by decide +kernel
theorem ft5_4 : jsk (jfty 5 4) = 0 := by decide +kernel
theorem nz5_4 : ¬ jfty 5 4 = 3 := by decide +kernel
theorem ft5_5 : jsk (jfty 5 5) = 2 := by decide +kernel
theorem nz5_5 : ¬ jfty 5 5 = 3 := by decide +kernel
theorem ft5_7 : jsk (jfty 5 7) = 2 := by decide +kernel
theorem nz5_7 : ¬ jfty 5 7 = 3 := by decide +kernel
theorem ft5_8 : jsk (jfty 5 8) = 2 := by decide +kernel
theorem nz5_8 : ¬ jfty 5 8 = 3 := by decide +kernel
theorem ft5_9 : jsk (jfty 5 9) = 2 := by decide +kernel
theorem nz5_9 : ¬ jfty 5 9 = 3 := by decide +kernel
theorem ft5_12 : jsk (jfty 5 12) = 2 := by decide +kernel
theorem nz5_12 : ¬ jfty 5 12 = 3 := by decide +kernel
theorem ft5_13 : jsk (jfty 5 13) = 2 := by decide +kernel
theorem nz5_13 : ¬ jfty 5 13 = 3 := by decide +kernel
theorem ft5_14 : jsk (jfty 5 14) = 2 := by decide +kernel
theorem nz5_14 : ¬ jfty 5 14 = 3 := by decide +kernel
theorem ft7_0 : jsk (jfty 7 0) = 2 := by decide +kernel
theorem nz7_0 : ¬ jfty 7 0 = 3 := by decide +kernel
theorem ft7_1 : jsk (jfty 7 1) = 2 := by decide +kernel
theorem nz7_1 : ¬ jfty 7 1 = 3 := by decide +kernel
theorem ft7_3 : jsk (jfty 7 3) = 0 := by decide +kernel
theorem nz7_3 : ¬ jfty 7 3 = 3 := by decide +kernel
theorem ft7_4 : jsk (jfty 7 4) = 0 := by decide +kernel
theorem nz7_4 : ¬ jfty 7 4 = 3 := by decide +kernel
theorem ft7_5 : jsk (jfty 7 5) = 0 := by decide +kernel
theorem nz7_5 : ¬ jfty 7 5 = 3 := by decide +kernel
theorem ft9_0 : jsk (jfty 9 0) = 0 := by decide +kernel
theorem nz9_0 : ¬ jfty 9 0 = 3 := by decide +kernel
theorem ft9_1 : jsk (jfty 9 1) = 0 := by decide +kernel
theorem nz9_1 : ¬ jfty 9 1 = 3 := by decide +kernel
theorem ft9_2 : jsk (jfty 9 2) = 2 := by decide +kernel
theorem nz9_2 : ¬ jfty 9 2 = 3 := by decide +kernel
theorem ft9_3 : jsk (jfty 9 3) = 0 := by decide +kernel
theorem nz9_3 : ¬ jfty 9 3 = 3 := by decide +kernel
theorem ft9_4 : jsk (jfty 9 4) = 2 := by decide +kernel
theorem nz9_4 : ¬ jfty 9 4 = 3 := by decide +kernel
theorem ft9_5 : jsk (jfty 9 5) = 2 := by decide +kernel
theorem nz9_5 : ¬ jfty 9 5 = 3 := by decide +kernel
theorem ft9_6 : jsk (jfty 9 6) = 2 := by decide +kernel
theorem nz9_6 : ¬ jfty 9 6 = 3 := by decide +kernel
theorem ft9_7 : jsk (jfty 9 7) = 0 := by decide +kernel
theorem nz9_7 : ¬ jfty 9 7 = 3 := by decide +kernel
theorem ft9_8 : jsk (jfty 9 8) = 2 := by decide +kernel
theorem nz9_8 : ¬ jfty 9 8 = 3 := by decide +kernel
theorem ft9_9 : jsk (jfty 9 9) = 0 := by decide +kernel
theorem nz9_9 : ¬ jfty 9 9 = 3 := by decide +kernel
theorem ft9_10 : jsk (jfty 9 10) = 2 := by decide +kernel
theorem nz9_10 : ¬ jfty 9 10 = 3 := by decide +kernel
theorem ft9_11 : jsk (jfty 9 11) = 2 := by decide +kernel
theorem nz9_11 : ¬ jfty 9 11 = 3 := by decide +kernel
theorem ft9_12 : jsk (jfty 9 12) = 2 := by decide +kernel
theorem nz9_12 : ¬ jfty 9 12 = 3 := by decide +kernel
theorem ft9_13 : jsk (jfty 9 13) = 2 := by decide +kernel
theorem nz9_13 : ¬ jfty 9 13 = 3 := by decide +kernel
theorem ft9_14 : jsk (jfty 9 14) = 2 := by decide +kernel
theorem nz9_14 : ¬ jfty 9 14 = 3 := by decide +kernel
theorem ft10_0 : jsk (jfty 10 0) = 0 := by decide +kernel
theorem nz10_0 : ¬ jfty 10 0 = 3 := by decide +kernel
theorem ft10_1 : jsk (jfty 10 1) = 1 := by decide +kernel
theorem nz10_1 : ¬ jfty 10 1 = 3 := by decide +kernel
theorem ft10_2 : jsk (jfty 10 2) = 0 := by decide +kernel
theorem ft10_3 : jsk (jfty 10 3) = 2 := by decide +kernel
theorem nz10_3 : ¬ jfty 10 3 = 3 := by decide +kernel
theorem ft10_4 : jsk (jfty 10 4) = 2 := by decide +kernel
theorem nz10_4 : ¬ jfty 10 4 = 3 := by decide +kernel
theorem ft10_5 : jsk (jfty 10 5) = 2 := by decide +kernel
theorem nz10_5 : ¬ jfty 10 5 = 3 := by decide +kernel
theorem ft10_7 : jsk (jfty 10 7) = 2 := by decide +kernel
theorem nz10_7 : ¬ jfty 10 7 = 3 := by decide +kernel
theorem ft11_0 : jsk (jfty 11 0) = 2 := by decide +kernel
theorem nz11_0 : ¬ jfty 11 0 = 3 := by decide +kernel
theorem ft11_1 : jsk (jfty 11 1) = 2 := by decide +kernel
theorem nz11_1 : ¬ jfty 11 1 = 3 := by decide +kernel
theorem ft11_3 : jsk (jfty 11 3) = 0 := by decide +kernel
theorem nz11_3 : ¬ jfty 11 3 = 3 := by decide +kernel
theorem ft11_4 : jsk (jfty 11 4) = 2 := by decide +kernel
theorem nz11_4 : ¬ jfty 11 4 = 3 := by decide +kernel
theorem ft11_6 : jsk (jfty 11 6) = 2 := by decide +kernel
theorem nz11_6 : ¬ jfty 11 6 = 3 := by decide +kernel
theorem ft11_7 : jsk (jfty 11 7) = 0 := by decide +kernel
theorem nz11_7 : ¬ jfty 11 7 = 3 := by decide +kernel
theorem ft11_9 : jsk (jfty 11 9) = 0 := by decide +kernel
theorem nz11_9 : ¬ jfty 11 9 = 3 := by decide +kernel
theorem ft11_10 : jsk (jfty 11 10) = 0 := by decide +kernel
theorem nz11_10 : ¬ jfty 11 10 = 3 := by decide +kernel
theorem ft11_11 : jsk (jfty 11 11) = 2 := by decide +kernel
theorem nz11_11 : ¬ jfty 11 11 = 3 := by decide +kernel
theorem ft11_12 : jsk (jfty 11 12) = 2 := by decide +kernel
theorem nz11_12 : ¬ jfty 11 12 = 3 := by decide +kernel
theorem ft11_13 : jsk (jfty 11 13) = 2 := by decide +kernel
theorem nz11_13 : ¬ jfty 11 13 = 3 := by decide +kernel
theorem ft11_14 : jsk (jfty 11 14) = 2 := by decide +kernel
theorem nz11_14 : ¬ jfty 11 14 = 3 := by decide +kernel
theorem ft12_1 : jsk (jfty 12 1) = 0 := by decide +kernel
theorem nz12_1 : ¬ jfty 12 1 = 3 := by decide +kernel
theorem ft12_2 : jsk (jfty 12 2) = 2 := by decide +kernel
theorem nz12_2 : ¬ jfty 12 2 = 3 := by decide +kernel
theorem ft12_4 : jsk (jfty 12 4) = 2 := by decide +kernel
theorem nz12_4 : ¬ jfty 12 4 = 3 := by decide +kernel
theorem ft12_5 : jsk (jfty 12 5) = 0 := by decide +kernel
theorem nz12_5 : ¬ jfty 12 5 = 3 := by decide +kernel
theorem ft12_7 : jsk (jfty 12 7) = 2 := by decide +kernel
theorem nz12_7 : ¬ jfty 12 7 = 3 := by decide +kernel
theorem ft12_8 : jsk (jfty 12 8) = 1 := by decide +kernel
theorem nz12_8 : ¬ jfty 12 8 = 3 := by decide +kernel
theorem ft12_9 : jsk (jfty 12 9) = 0 := by decide +kernel
theorem nz12_9 : ¬ jfty 12 9 = 3 := by decide +kernel
theorem ft12_16 : jsk (jfty 12 16) = 2 := by decide +kernel
theorem nz12_16 : ¬ jfty 12 16 = 3 := by decide +kernel
theorem ft12_17 : jsk (jfty 12 17) = 0 := by decide +kernel
theorem nz12_17 : ¬ jfty 12 17 = 3 := by decide +kernel
theorem ft12_19 : jsk (jfty 12 19) = 0 := by decide +kernel
theorem nz12_19 : ¬ jfty 12 19 = 3 := by decide +kernel
theorem ft12_20 : jsk (jfty 12 20) = 0 := by decide +kernel
theorem nz12_20 : ¬ jfty 12 20 = 3 := by decide +kernel
theorem ft12_21 : jsk (jfty 12 21) = 0 := by decide +kernel
theorem nz12_21 : ¬ jfty 12 21 = 3 := by decide +kernel
theorem ft12_22 : jsk (jfty 12 22) = 0 := by decide +kernel
theorem nz12_22 : ¬ jfty 12 22 = 3 := by decide +kernel
theorem ft12_23 : jsk (jfty 12 23) = 0 := by decide +kernel
theorem nz12_23 : ¬ jfty 12 23 = 3 := by decide +kernel
theorem ft12_28 : jsk (jfty 12 28) = 0 := by decide +kernel
theorem nz12_28 : ¬ jfty 12 28 = 3 := by decide +kernel
theorem ft12_29 : jsk (jfty 12 29) = 2 := by decide +kernel
theorem nz12_29 : ¬ jfty 12 29 = 3 := by decide +kernel
theorem ft12_30 : jsk (jfty 12 30) = 2 := by decide +kernel
theorem nz12_30 : ¬ jfty 12 30 = 3 := by decide +kernel
theorem ft12_31 : jsk (jfty 12 31) = 0 := by decide +kernel
theorem nz12_31 : ¬ jfty 12 31 = 3 := by decide +kernel
theorem ft12_32 : jsk (jfty 12 32) = 2 := by decide +kernel
theorem nz12_32 : ¬ jfty 12 32 = 3 := by decide +kernel
theorem ft12_33 : jsk (jfty 12 33) = 2 := by decide +kernel
theorem nz12_33 : ¬ jfty 12 33 = 3 := by decide +kernel
theorem ft12_44 : jsk (jfty 12 44) = 0 := by decide +kernel
theorem nz12_44 : ¬ jfty 12 44 = 3 := by decide +kernel
theorem ft12_45 : jsk (jfty 12 45) = 0 := by decide +kernel
theorem nz12_45 : ¬ jfty 12 45 = 3 := by decide +kernel
theorem ft12_46 : jsk (jfty 12 46) = 2 := by decide +kernel
theorem nz12_46 : ¬ jfty 12 46 = 3 := by decide +kernel
theorem ft12_47 : jsk (jfty 12 47) = 0 := by decide +kernel
theorem nz12_47 : ¬ jfty 12 47 = 3 := by decide +kernel
theorem ft12_48 : jsk (jfty 12 48) = 2 := by decide +kernel
theorem nz12_48 : ¬ jfty 12 48 = 3 := by decide +kernel
theorem ft12_49 : jsk (jfty 12 49) = 2 := by decide +kernel
theorem nz12_49 : ¬ jfty 12 49 = 3 := by decide +kernel
theorem ft12_50 : jsk (jfty 12 50) = 2 := by decide +kernel
theorem nz12_50 : ¬ jfty 12 50 = 3 := by decide +kernel
theorem ft12_51 : jsk (jfty 12 51) = 0 := by decide +kernel
theorem nz12_51 : ¬ jfty 12 51 = 3 := by decide +kernel
theorem ft12_52 : jsk (jfty 12 52) = 2 := by decide +kernel
theorem nz12_52 : ¬ jfty 12 52 = 3 := by decide +kernel
theorem ft12_53 : jsk (jfty 12 53) = 0 := by decide +kernel
theorem nz12_53 : ¬ jfty 12 53 = 3 := by decide +kernel
theorem ft12_54 : jsk (jfty 12 54) = 2 := by decide +kernel
theorem nz12_54 : ¬ jfty 12 54 = 3 := by decide +kernel
theorem ft12_55 : jsk (jfty 12 55) = 2 := by decide +kernel
theorem nz12_55 : ¬ jfty 12 55 = 3 := by decide +kernel
theorem ft12_56 : jsk (jfty 12 56) = 2 := by decide +kernel
theorem nz12_56 : ¬ jfty 12 56 = 3 := by decide +kernel
theorem ft12_57 : jsk (jfty 12 57) = 2 := by decide +kernel
theorem nz12_57 : ¬ jfty 12 57 = 3 := by decide +kernel
theorem ft12_58 : jsk (jfty 12 58) = 2 := by decide +kernel
theorem nz12_58 : ¬ jfty 12 58 = 3 := by decide +kernel
theorem ft12_60 : jsk (jfty 12 60) = 0 := by decide +kernel
theorem nz12_60 : ¬ jfty 12 60 = 3 := by decide +kernel
theorem ft12_62 : jsk (jfty 12 62) = 2 := by decide +kernel
theorem nz12_62 : ¬ jfty 12 62 = 3 := by decide +kernel
theorem ft12_63 : jsk (jfty 12 63) = 2 := by decide +kernel
theorem nz12_63 : ¬ jfty 12 63 = 3 := by decide +kernel
theorem ft12_64 : jsk (jfty 12 64) = 2 := by decide +kernel
theorem nz12_64 : ¬ jfty 12 64 = 3 := by decide +kernel
theorem ml0 : jML 0 = 4 := by decide +kernel
theorem pp0 : jP 0 = c0_0 := rfl
theorem ml9 : jML 9 = 4 := by decide +kernel
theorem pp9 : jP 9 = c9_0 := rfl
theorem ml13 : jML 13 = 4 := by decide +kernel
theorem pp13 : jP 13 = c13_0 := rfl
theorem ml17 : jML 17 = 4 := by decide +kernel
theorem pp17 : jP 17 = c17_0 := rfl
theorem ml63 : jML 63 = 2 := by decide +kernel
theorem pp63 : jP 63 = c63_0 := rfl
theorem ml64 : jML 64 = 4 := by decide +kernel
theorem pp64 : jP 64 = c64_0 := rfl
theorem ml65 : jML 65 = 1 := by decide +kernel
theorem pp65 : jP 65 = c65_0 := rfl
theorem ml67 : jML 67 = 3 := by decide +kernel
theorem pp67 : jP 67 = c67_0 := rfl
theorem ml68 : jML 68 = 1 := by decide +kernel
theorem pp68 : jP 68 = c68_0 := rfl
theorem ml69 : jML 69 = 1 := by decide +kernel
theorem pp69 : jP 69 = c69_0 := rfl
theorem ml70 : jML 70 = 1 := by decide +kernel
theorem pp70 : jP 70 = c70_0 := rfl
theorem ml73 : jML 73 = 2 := by decide +kernel
theorem pp73 : jP 73 = c73_0 := rfl
theorem ml74 : jML 74 = 5 := by decide +kernel
theorem pp74 : jP 74 = c74_0 := rfl
theorem ml75 : jML 75 = 4 := by decide +kernel
theorem pp75 : jP 75 = c75_0 := rfl
theorem ml76 : jML 76 = 4 := by decide +kernel
theorem pp76 : jP 76 = c76_0 := rfl
theorem ml83 : jML 83 = 4 := by decide +kernel
theorem pp83 : jP 83 = c83_0 := rfl
theorem ml89 : jML 89 = 1 := by decide +kernel
theorem pp89 : jP 89 = c89_0 := rfl
theorem ml90 : jML 90 = 5 := by decide +kernel
theorem pp90 : jP 90 = c90_0 := rfl
theorem ml93 : jML 93 = 1 := by decide +kernel
theorem pp93 : jP 93 = c93_0 := rfl
theorem ml95 : jML 95 = 2 := by decide +kernel
theorem pp95 : jP 95 = c95_0 := rfl
theorem ml97 : jML 97 = 4 := by decide +kernel
theorem pp97 : jP 97 = c97_0 := rfl
theorem ml103 : jML 103 = 3 := by decide +kernel
theorem pp103 : jP 103 = c103_0 := rfl
theorem ml104 : jML 104 = 1 := by decide +kernel
theorem pp104 : jP 104 = c104_0 := rfl
theorem ml105 : jML 105 = 3 := by decide +kernel
theorem pp105 : jP 105 = c105_0 := rfl
theorem ml110 : jML 110 = 3 := by decide +kernel
theorem pp110 : jP 110 = c110_0 := rfl
theorem ml119 : jML 119 = 4 := by decide +kernel
theorem pp119 : jP 119 = c119_0 := rfl
theorem ml120 : jML 120 = 3 := by decide +kernel
theorem pp120 : jP 120 = c120_0 := rfl
theorem ml121 : jML 121 = 2 := by decide +kernel
theorem pp121 : jP 121 = c121_0 := rfl
theorem ml122 : jML 122 = 6 := by decide +kernel
theorem pp122 : jP 122 = c122_0 := rfl
theorem ml129 : jML 129 = 3 := by decide +kernel
theorem pp129 : jP 129 = c129_0 := rfl
theorem ml130 : jML 130 = 2 := by decide +kernel
theorem pp130 : jP 130 = c130_0 := rfl
theorem ml134 : jML 134 = 3 := by decide +kernel
theorem pp134 : jP 134 = c134_0 := rfl
theorem ml135 : jML 135 = 5 := by decide +kernel
theorem pp135 : jP 135 = c135_0 := rfl
theorem ml136 : jML 136 = 11 := by decide +kernel
theorem pp136 : jP 136 = c136_0 := rfl
theorem ml137 : jML 137 = 6 := by decide +kernel
theorem pp137 : jP 137 = c137_0 := rfl
theorem ml139 : jML 139 = 2 := by decide +kernel
theorem pp139 : jP 139 = c139_0 := rfl
theorem ml140 : jML 140 = 2 := by decide +kernel
theorem pp140 : jP 140 = c140_0 := rfl
theorem ml144 : jML 144 = 3 := by decide +kernel
theorem pp144 : jP 144 = c144_0 := rfl
theorem ml146 : jML 146 = 4 := by decide +kernel
theorem pp146 : jP 146 = c146_0 := rfl
theorem ml147 : jML 147 = 3 := by decide +kernel
theorem pp147 : jP 147 = c147_0 := rfl
theorem ml152 : jML 152 = 6 := by decide +kernel
theorem pp152 : jP 152 = c152_0 := rfl
theorem ml153 : jML 153 = 1 := by decide +kernel
theorem pp153 : jP 153 = c153_0 := rfl
theorem ml154 : jML 154 = 6 := by decide +kernel
theorem pp154 : jP 154 = c154_0 := rfl
theorem ml157 : jML 157 = 1 := by decide +kernel
theorem pp157 : jP 157 = c157_0 := rfl
theorem ml158 : jML 158 = 3 := by decide +kernel
theorem pp158 : jP 158 = c158_0 := rfl
theorem ml159 : jML 159 = 3 := by decide +kernel
theorem pp159 : jP 159 = c159_0 := rfl
theorem ml160 : jML 160 = 2 := by decide +kernel
theorem pp160 : jP 160 = c160_0 := rfl
theorem ml161 : jML 161 = 2 := by decide +kernel
theorem pp161 : jP 161 = c161_0 := rfl
theorem ml162 : jML 162 = 1 := by decide +kernel
theorem pp162 : jP 162 = c162_0 := rfl
theorem ml163 : jML 163 = 3 := by decide +kernel
theorem pp163 : jP 163 = c163_0 := rfl
theorem ml166 : jML 166 = 2 := by decide +kernel
theorem pp166 : jP 166 = c166_0 := rfl
theorem ml167 : jML 167 = 3 := by decide +kernel
theorem pp167 : jP 167 = c167_0 := rfl
theorem ml168 : jML 168 = 7 := by decide +kernel
theorem pp168 : jP 168 = c168_0 := rfl
theorem ml169 : jML 169 = 1 := by decide +kernel
theorem pp169 : jP 169 = c169_0 := rfl
theorem ml170 : jML 170 = 2 := by decide +kernel
theorem pp170 : jP 170 = c170_0 := rfl
theorem ml171 : jML 171 = 4 := by decide +kernel
theorem pp171 : jP 171 = c171_0 := rfl
theorem ml172 : jML 172 = 3 := by decide +kernel
theorem pp172 : jP 172 = c172_0 := rfl
theorem ml173 : jML 173 = 3 := by decide +kernel
theorem pp173 : jP 173 = c173_0 := rfl
theorem ml174 : jML 174 = 5 := by decide +kernel
theorem pp174 : jP 174 = c174_0 := rfl
theorem ml175 : jML 175 = 7 := by decide +kernel
theorem pp175 : jP 175 = c175_0 := rfl
theorem ml176 : jML 176 = 1 := by decide +kernel
theorem pp176 : jP 176 = c176_0 := rfl
theorem ml177 : jML 177 = 1 := by decide +kernel
theorem pp177 : jP 177 = c177_0 := rfl
theorem ml178 : jML 178 = 4 := by decide +kernel
theorem pp178 : jP 178 = c178_0 := rfl
theorem ml179 : jML 179 = 3 := by decide +kernel
theorem pp179 : jP 179 = c179_0 := rfl
theorem ml180 : jML 180 = 4 := by decide +kernel
theorem pp180 : jP 180 = c180_0 := rfl
theorem ml181 : jML 181 = 8 := by decide +kernel
theorem pp181 : jP 181 = c181_0 := rfl
theorem ml182 : jML 182 = 6 := by decide +kernel
theorem pp182 : jP 182 = c182_0 := rfl
theorem ml183 : jML 183 = 6 := by decide +kernel
theorem pp183 : jP 183 = c183_0 := rfl
theorem ml184 : jML 184 = 5 := by decide +kernel
theorem pp184 : jP 184 = c184_0 := rfl
theorem ml185 : jML 185 = 6 := by decide +kernel
theorem pp185 : jP 185 = c185_0 := rfl
theorem ml186 : jML 186 = 4 := by decide +kernel
theorem pp186 : jP 186 = c186_0 := rfl
theorem ml187 : jML 187 = 9 := by decide +kernel
theorem pp187 : jP 187 = c187_0 := rfl
theorem ml188 : jML 188 = 14 := by decide +kernel
theorem pp188 : jP 188 = c188_0 := rfl
theorem ml189 : jML 189 = 9 := by decide +kernel
theorem pp189 : jP 189 = c189_0 := rfl
theorem ml190 : jML 190 = 5 := by decide +kernel
theorem pp190 : jP 190 = c190_0 := rfl
theorem ml191 : jML 191 = 7 := by decide +kernel
theorem pp191 : jP 191 = c191_0 := rfl
theorem ml192 : jML 192 = 8 := by decide +kernel
theorem pp192 : jP 192 = c192_0 := rfl
theorem ml193 : jML 193 = 9 := by decide +kernel
theorem pp193 : jP 193 = c193_0 := rfl
theorem ml194 : jML 194 = 10 := by decide +kernel
theorem pp194 : jP 194 = c194_0 := rfl
theorem ml195 : jML 195 = 3 := by decide +kernel
theorem pp195 : jP 195 = c195_0 := rfl
theorem ml196 : jML 196 = 4 := by decide +kernel
theorem pp196 : jP 196 = c196_0 := rfl
theorem ml197 : jML 197 = 2 := by decide +kernel
theorem pp197 : jP 197 = c197_0 := rfl
theorem ml198 : jML 198 = 6 := by decide +kernel
theorem pp198 : jP 198 = c198_0 := rfl
theorem ml199 : jML 199 = 2 := by decide +kernel
theorem pp199 : jP 199 = c199_0 := rfl
theorem ml200 : jML 200 = 4 := by decide +kernel
theorem pp200 : jP 200 = c200_0 := rfl
theorem ml201 : jML 201 = 2 := by decide +kernel
theorem pp201 : jP 201 = c201_0 := rfl
theorem ml202 : jML 202 = 3 := by decide +kernel
theorem pp202 : jP 202 = c202_0 := rfl
theorem ml203 : jML 203 = 1 := by decide +kernel
theorem pp203 : jP 203 = c203_0 := rfl
theorem ml204 : jML 204 = 3 := by decide +kernel
theorem pp204 : jP 204 = c204_0 := rfl
theorem ml205 : jML 205 = 4 := by decide +kernel
theorem pp205 : jP 205 = c205_0 := rfl
theorem ml206 : jML 206 = 5 := by decide +kernel
theorem pp206 : jP 206 = c206_0 := rfl
theorem ml207 : jML 207 = 4 := by decide +kernel
theorem pp207 : jP 207 = c207_0 := rfl
theorem ml208 : jML 208 = 5 := by decide +kernel
theorem pp208 : jP 208 = c208_0 := rfl
theorem ml209 : jML 209 = 10 := by decide +kernel
theorem pp209 : jP 209 = c209_0 := rfl
theorem ml210 : jML 210 = 5 := by decide +kernel
theorem pp210 : jP 210 = c210_0 := rfl
theorem ml211 : jML 211 = 2 := by decide +kernel
theorem pp211 : jP 211 = c211_0 := rfl
theorem ml212 : jML 212 = 3 := by decide +kernel
theorem pp212 : jP 212 = c212_0 := rfl
theorem ml213 : jML 213 = 5 := by decide +kernel
theorem pp213 : jP 213 = c213_0 := rfl
theorem ml214 : jML 214 = 6 := by decide +kernel
theorem pp214 : jP 214 = c214_0 := rfl
theorem ml215 : jML 215 = 3 := by decide +kernel
theorem pp215 : jP 215 = c215_0 := rfl
theorem ml216 : jML 216 = 6 := by decide +kernel
theorem pp216 : jP 216 = c216_0 := rfl
theorem ml217 : jML 217 = 4 := by decide +kernel
theorem pp217 : jP 217 = c217_0 := rfl
theorem ml218 : jML 218 = 2 := by decide +kernel
theorem pp218 : jP 218 = c218_0 := rfl
theorem ml219 : jML 219 = 2 := by decide +kernel
theorem pp219 : jP 219 = c219_0 := rfl
theorem ml220 : jML 220 = 2 := by decide +kernel
theorem pp220 : jP 220 = c220_0 := rfl
theorem ml221 : jML 221 = 1 := by decide +kernel
theorem pp221 : jP 221 = c221_0 := rfl
theorem ml222 : jML 222 = 1 := by decide +kernel
theorem pp222 : jP 222 = c222_0 := rfl
theorem ml223 : jML 223 = 9 := by decide +kernel
theorem pp223 : jP 223 = c223_0 := rfl
theorem ml224 : jML 224 = 11 := by decide +kernel
theorem pp224 : jP 224 = c224_0 := rfl
theorem ml225 : jML 225 = 4 := by decide +kernel
theorem pp225 : jP 225 = c225_0 := rfl
theorem ml239 : jML 239 = 3 := by decide +kernel
theorem pp239 : jP 239 = c239_0 := rfl
theorem ml242 : jML 242 = 3 := by decide +kernel
theorem pp242 : jP 242 = c242_0 := rfl
theorem ml243 : jML 243 = 10 := by decide +kernel
theorem pp243 : jP 243 = c243_0 := rfl
theorem ml244 : jML 244 = 7 := by decide +kernel
theorem pp244 : jP 244 = c244_0 := rfl
theorem ml245 : jML 245 = 2 := by decide +kernel
theorem pp245 : jP 245 = c245_0 := rfl
theorem ml247 : jML 247 = 3 := by decide +kernel
theorem pp247 : jP 247 = c247_0 := rfl
theorem ml248 : jML 248 = 4 := by decide +kernel
theorem pp248 : jP 248 = c248_0 := rfl
theorem ml249 : jML 249 = 4 := by decide +kernel
theorem pp249 : jP 249 = c249_0 := rfl
theorem ml250 : jML 250 = 7 := by decide +kernel
theorem pp250 : jP 250 = c250_0 := rfl
theorem ml253 : jML 253 = 6 := by decide +kernel
theorem pp253 : jP 253 = c253_0 := rfl
theorem ml254 : jML 254 = 1 := by decide +kernel
theorem pp254 : jP 254 = c254_0 := rfl
theorem ml255 : jML 255 = 6 := by decide +kernel
theorem pp255 : jP 255 = c255_0 := rfl
theorem ml256 : jML 256 = 4 := by decide +kernel
theorem pp256 : jP 256 = c256_0 := rfl
theorem ml257 : jML 257 = 6 := by decide +kernel
theorem pp257 : jP 257 = c257_0 := rfl
theorem ml258 : jML 258 = 3 := by decide +kernel
theorem pp258 : jP 258 = c258_0 := rfl
theorem ml259 : jML 259 = 5 := by decide +kernel
theorem pp259 : jP 259 = c259_0 := rfl
theorem ml260 : jML 260 = 9 := by decide +kernel
theorem pp260 : jP 260 = c260_0 := rfl
theorem ml261 : jML 261 = 2 := by decide +kernel
theorem pp261 : jP 261 = c261_0 := rfl
theorem ml262 : jML 262 = 3 := by decide +kernel
theorem pp262 : jP 262 = c262_0 := rfl
theorem ml263 : jML 263 = 4 := by decide +kernel
theorem pp263 : jP 263 = c263_0 := rfl
theorem ml264 : jML 264 = 2 := by decide +kernel
theorem pp264 : jP 264 = c264_0 := rfl
theorem ml265 : jML 265 = 2 := by decide +kernel
theorem pp265 : jP 265 = c265_0 := rfl
theorem ml266 : jML 266 = 2 := by decide +kernel
theorem pp266 : jP 266 = c266_0 := rfl
theorem ml272 : jML 272 = 7 := by decide +kernel
theorem pp272 : jP 272 = c272_0 := rfl
theorem ml273 : jML 273 = 3 := by decide +kernel
theorem pp273 : jP 273 = c273_0 := rfl
theorem ml274 : jML 274 = 2 := by decide +kernel
theorem pp274 : jP 274 = c274_0 := rfl
theorem ml275 : jML 275 = 6 := by decide +kernel
theorem pp275 : jP 275 = c275_0 := rfl
theorem ml277 : jML 277 = 3 := by decide +kernel
theorem pp277 : jP 277 = c277_0 := rfl
theorem ml278 : jML 278 = 4 := by decide +kernel
theorem pp278 : jP 278 = c278_0 := rfl
theorem ml281 : jML 281 = 8 := by decide +kernel
theorem pp281 : jP 281 = c281_0 := rfl
theorem ml282 : jML 282 = 1 := by decide +kernel
theorem pp282 : jP 282 = c282_0 := rfl
theorem ml283 : jML 283 = 1 := by decide +kernel
theorem pp283 : jP 283 = c283_0 := rfl
theorem ml284 : jML 284 = 2 := by decide +kernel
theorem pp284 : jP 284 = c284_0 := rfl
theorem ml285 : jML 285 = 3 := by decide +kernel
theorem pp285 : jP 285 = c285_0 := rfl
theorem ml286 : jML 286 = 3 := by decide +kernel
theorem pp286 : jP 286 = c286_0 := rfl
theorem ml290 : jML 290 = 3 := by decide +kernel
theorem pp290 : jP 290 = c290_0 := rfl
theorem ml301 : jML 301 = 6 := by decide +kernel
theorem pp301 : jP 301 = c301_0 := rfl
theorem ml302 : jML 302 = 5 := by decide +kernel
theorem pp302 : jP 302 = c302_0 := rfl
theorem ml303 : jML 303 = 4 := by decide +kernel
theorem pp303 : jP 303 = c303_0 := rfl
theorem ml304 : jML 304 = 10 := by decide +kernel
theorem pp304 : jP 304 = c304_0 := rfl
theorem ml306 : jML 306 = 6 := by decide +kernel
theorem pp306 : jP 306 = c306_0 := rfl
theorem ml308 : jML 308 = 3 := by decide +kernel
theorem pp308 : jP 308 = c308_0 := rfl
theorem ml312 : jML 312 = 4 := by decide +kernel
theorem pp312 : jP 312 = c312_0 := rfl
theorem ml313 : jML 313 = 7 := by decide +kernel
theorem pp313 : jP 313 = c313_0 := rfl
theorem ml314 : jML 314 = 4 := by decide +kernel
theorem pp314 : jP 314 = c314_0 := rfl
theorem ml319 : jML 319 = 4 := by decide +kernel
theorem pp319 : jP 319 = c319_0 := rfl
theorem ml320 : jML 320 = 5 := by decide +kernel
theorem pp320 : jP 320 = c320_0 := rfl
theorem ml321 : jML 321 = 7 := by decide +kernel
theorem pp321 : jP 321 = c321_0 := rfl
theorem ml322 : jML 322 = 4 := by decide +kernel
theorem pp322 : jP 322 = c322_0 := rfl
theorem ml327 : jML 327 = 5 := by decide +kernel
theorem pp327 : jP 327 = c327_0 := rfl
theorem ml329 : jML 329 = 13 := by decide +kernel
theorem pp329 : jP 329 = c329_0 := rfl
theorem ml330 : jML 330 = 4 := by decide +kernel
theorem pp330 : jP 330 = c330_0 := rfl
theorem ml331 : jML 331 = 6 := by decide +kernel
theorem pp331 : jP 331 = c331_0 := rfl
theorem ml333 : jML 333 = 5 := by decide +kernel
theorem pp333 : jP 333 = c333_0 := rfl
theorem ml336 : jML 336 = 10 := by decide +kernel
theorem pp336 : jP 336 = c336_0 := rfl
theorem ml338 : jML 338 = 6 := by decide +kernel
theorem pp338 : jP 338 = c338_0 := rfl
theorem ml339 : jML 339 = 4 := by decide +kernel
theorem pp339 : jP 339 = c339_0 := rfl
theorem ml340 : jML 340 = 3 := by decide +kernel
theorem pp340 : jP 340 = c340_0 := rfl
theorem ml345 : jML 345 = 6 := by decide +kernel
theorem pp345 : jP 345 = c345_0 := rfl
theorem ml346 : jML 346 = 2 := by decide +kernel
theorem pp346 : jP 346 = c346_0 := rfl
theorem ml347 : jML 347 = 3 := by decide +kernel
theorem pp347 : jP 347 = c347_0 := rfl
theorem ml349 : jML 349 = 7 := by decide +kernel
theorem pp349 : jP 349 = c349_0 := rfl
theorem ml350 : jML 350 = 3 := by decide +kernel
theorem pp350 : jP 350 = c350_0 := rfl
theorem ml351 : jML 351 = 5 := by decide +kernel
theorem pp351 : jP 351 = c351_0 := rfl
theorem ml352 : jML 352 = 8 := by decide +kernel
theorem pp352 : jP 352 = c352_0 := rfl
theorem ml353 : jML 353 = 15 := by decide +kernel
theorem pp353 : jP 353 = c353_0 := rfl
theorem ml354 : jML 354 = 11 := by decide +kernel
theorem pp354 : jP 354 = c354_0 := rfl
theorem ml367 : jML 367 = 4 := by decide +kernel
theorem pp367 : jP 367 = c367_0 := rfl
theorem ml368 : jML 368 = 2 := by decide +kernel
theorem pp368 : jP 368 = c368_0 := rfl
theorem ml369 : jML 369 = 2 := by decide +kernel
theorem pp369 : jP 369 = c369_0 := rfl
theorem ml370 : jML 370 = 1 := by decide +kernel
theorem pp370 : jP 370 = c370_0 := rfl
theorem ml371 : jML 371 = 3 := by decide +kernel
theorem pp371 : jP 371 = c371_0 := rfl
theorem ml372 : jML 372 = 5 := by decide +kernel
theorem pp372 : jP 372 = c372_0 := rfl
theorem ml373 : jML 373 = 3 := by decide +kernel
theorem pp373 : jP 373 = c373_0 := rfl
theorem ml374 : jML 374 = 7 := by decide +kernel
theorem pp374 : jP 374 = c374_0 := rfl
theorem ml375 : jML 375 = 3 := by decide +kernel
theorem pp375 : jP 375 = c375_0 := rfl
theorem ml376 : jML 376 = 7 := by decide +kernel
theorem pp376 : jP 376 = c376_0 := rfl
theorem ml377 : jML 377 = 3 := by decide +kernel
theorem pp377 : jP 377 = c377_0 := rfl
theorem ml378 : jML 378 = 6 := by decide +kernel
theorem pp378 : jP 378 = c378_0 := rfl
theorem ml380 : jML 380 = 4 := by decide +kernel
theorem pp380 : jP 380 = c380_0 := rfl
theorem ml381 : jML 381 = 2 := by decide +kernel
theorem pp381 : jP 381 = c381_0 := rfl
theorem ml382 : jML 382 = 4 := by decide +kernel
theorem pp382 : jP 382 = c382_0 := rfl
theorem ml383 : jML 383 = 4 := by decide +kernel
theorem pp383 : jP 383 = c383_0 := rfl
theorem f0_0 : jfind c0_0 0 = some c0_0 := rfl
theorem f9_0 : jfind c9_0 0 = some c9_0 := rfl
theorem f13_0 : jfind c13_0 0 = some c13_0 := rfl
theorem f17_0 : jfind c17_0 0 = some c17_0 := rfl
theorem f63_0 : jfind c63_0 0 = some c63_0 := rfl
theorem f63_16 : jfind c63_0 16 = some c63_16 := rfl
theorem f63_17 : jfind c63_0 17 = some c63_17 := rfl
theorem f64_0 : jfind c64_0 0 = some c64_0 := rfl
theorem f64_2 : jfind c64_0 2 = some c64_2 := rfl
theorem f64_49 : jfind c64_0 49 = some c64_49 := rfl
theorem f65_0 : jfind c65_0 0 = some c65_0 := rfl
theorem f67_0 : jfind c67_0 0 = some c67_0 := rfl
theorem f67_105 : jfind c67_0 105 = some c67_105 := rfl
theorem f67_139 : jfind c67_0 139 = some c67_139 := rfl
theorem f67_150 : jfind c67_0 150 = some c67_150 := rfl
theorem f67_151 : jfind c67_0 151 = some c67_151 := rfl
theorem f68_0 : jfind c68_0 0 = some c68_0 := rfl
theorem f68_27 : jfind c68_0 27 = some c68_27 := rfl
theorem f69_0 : jfind c69_0 0 = some c69_0 := rfl
theorem f69_22 : jfind c69_0 22 = some c69_22 := rfl
theorem f70_0 : jfind c70_0 0 = some c70_0 := rfl
theorem f70_15 : jfind c70_0 15 = some c70_15 := rfl
theorem f73_0 : jfind c73_0 0 = some c73_0 := rfl
theorem f73_16 : jfind c73_0 16 = some c73_16 := rfl
theorem f74_0 : jfind c74_0 0 = some c74_0 := rfl
theorem f74_13 : jfind c74_0 13 = some c74_13 := rfl
theorem f74_19 : jfind c74_0 19 = some c74_19 := rfl
theorem f74_40 : jfind c74_0 40 = some c74_40 := rfl
theorem f74_55 : jfind c74_0 55 = some c74_55 := rfl
theorem f74_78 : jfind c74_0 78 = some c74_78 := rfl
theorem f75_0 : jfind c75_0 0 = some c75_0 := rfl
theorem f75_13 : jfind c75_0 13 = some c75_13 := rfl
theorem f75_29 : jfind c75_0 29 = some c75_29 := rfl
theorem f75_52 : jfind c75_0 52 = some c75_52 := rfl
theorem f76_0 : jfind c76_0 0 = some c76_0 := rfl
theorem f76_13 : jfind c76_0 13 = some c76_13 := rfl
theorem f76_63 : jfind c76_0 63 = some c76_63 := rfl
theorem f83_0 : jfind c83_0 0 = some c83_0 := rfl
theorem f89_0 : jfind c89_0 0 = some c89_0 := rfl
theorem f89_13 : jfind c89_0 13 = some c89_13 := rfl
theorem f89_14 : jfind c89_0 14 = some c89_14 := rfl
theorem f90_0 : jfind c90_0 0 = some c90_0 := rfl
theorem f90_26 : jfind c90_0 26 = some c90_26 := rfl
theorem f90_44 : jfind c90_0 44 = some c90_44 := rfl
theorem f90_94 : jfind c90_0 94 = some c90_94 := rfl
theorem f93_0 : jfind c93_0 0 = some c93_0 := rfl
theorem f95_0 : jfind c95_0 0 = some c95_0 := rfl
theorem f95_22 : jfind c95_0 22 = some c95_22 := rfl
theorem f97_0 : jfind c97_0 0 = some c97_0 := rfl
theorem f103_0 : jfind c103_0 0 = some c103_0 := rfl
theorem f104_0 : jfind c104_0 0 = some c104_0 := rfl
theorem f104_11 : jfind c104_0 11 = some c104_11 := rfl
theorem f105_0 : jfind c105_0 0 = some c105_0 := rfl
theorem f105_28 : jfind c105_0 28 = some c105_28 := rfl
theorem f110_0 : jfind c110_0 0 = some c110_0 := rfl
theorem f110_20 : jfind c110_0 20 = some c110_20 := rfl
theorem f110_71 : jfind c110_0 71 = some c110_71 := rfl
theorem f119_0 : jfind c119_0 0 = some c119_0 := rfl
theorem f119_11 : jfind c119_0 11 = some c119_11 := rfl
theorem f120_0 : jfind c120_0 0 = some c120_0 := rfl
theorem f120_28 : jfind c120_0 28 = some c120_28 := rfl
theorem f120_39 : jfind c120_0 39 = some c120_39 := rfl
theorem f121_0 : jfind c121_0 0 = some c121_0 := rfl
theorem f122_0 : jfind c122_0 0 = some c122_0 := rfl
theorem f122_14 : jfind c122_0 14 = some c122_14 := rfl
theorem f129_0 : jfind c129_0 0 = some c129_0 := rfl
theorem f129_11 : jfind c129_0 11 = some c129_11 := rfl
theorem f130_0 : jfind c130_0 0 = some c130_0 := rfl
theorem f134_0 : jfind c134_0 0 = some c134_0 := rfl
theorem f134_35 : jfind c134_0 35 = some c134_35 := rfl
theorem f134_36 : jfind c134_0 36 = some c134_36 := rfl
theorem f135_0 : jfind c135_0 0 = some c135_0 := rfl
theorem f135_32 : jfind c135_0 32 = some c135_32 := rfl
theorem f136_0 : jfind c136_0 0 = some c136_0 := rfl
theorem f136_18 : jfind c136_0 18 = some c136_18 := rfl
theorem f136_105 : jfind c136_0 105 = some c136_105 := rfl
theorem f137_0 : jfind c137_0 0 = some c137_0 := rfl
theorem f137_10 : jfind c137_0 10 = some c137_10 := rfl
theorem f137_14 : jfind c137_0 14 = some c137_14 := rfl
theorem f139_0 : jfind c139_0 0 = some c139_0 := rfl
theorem f139_11 : jfind c139_0 11 = some c139_11 := rfl
theorem f140_0 : jfind c140_0 0 = some c140_0 := rfl
theorem f140_16 : jfind c140_0 16 = some c140_16 := rfl
theorem f144_0 : jfind c144_0 0 = some c144_0 := rfl
theorem f144_7 : jfind c144_0 7 = some c144_7 := rfl
theorem f144_38 : jfind c144_0 38 = some c144_38 := rfl
theorem f146_0 : jfind c146_0 0 = some c146_0 := rfl
theorem f146_39 : jfind c146_0 39 = some c146_39 := rfl
theorem f147_0 : jfind c147_0 0 = some c147_0 := rfl
theorem f152_0 : jfind c152_0 0 = some c152_0 := rfl
theorem f152_50 : jfind c152_0 50 = some c152_50 := rfl
theorem f153_0 : jfind c153_0 0 = some c153_0 := rfl
theorem f153_33 : jfind c153_0 33 = some c153_33 := rfl
theorem f153_46 : jfind c153_0 46 = some c153_46 := rfl
theorem f153_47 : jfind c153_0 47 = some c153_47 := rfl
theorem f154_0 : jfind c154_0 0 = some c154_0 := rfl
theorem f154_76 : jfind c154_0 76 = some c154_76 := rfl
theorem f154_104 : jfind c154_0 104 = some c154_104 := rfl
theorem f154_125 : jfind c154_0 125 = some c154_125 := rfl
theorem f157_0 : jfind c157_0 0 = some c157_0 := rfl
theorem f158_0 : jfind c158_0 0 = some c158_0 := rfl
theorem f158_12 : jfind c158_0 12 = some c158_12 := rfl
theorem f158_14 : jfind c158_0 14 = some c158_14 := rfl
theorem f158_48 : jfind c158_0 48 = some c158_48 := rfl
theorem f159_0 : jfind c159_0 0 = some c159_0 := rfl
theorem f159_12 : jfind c159_0 12 = some c159_12 := rfl
theorem f159_14 : jfind c159_0 14 = some c159_14 := rfl
theorem f159_48 : jfind c159_0 48 = some c159_48 := rfl
theorem f160_0 : jfind c160_0 0 = some c160_0 := rfl
theorem f161_0 : jfind c161_0 0 = some c161_0 := rfl
theorem f161_12 : jfind c161_0 12 = some c161_12 := rfl
theorem f161_16 : jfind c161_0 16 = some c161_16 := rfl
theorem f162_0 : jfind c162_0 0 = some c162_0 := rfl
theorem f163_0 : jfind c163_0 0 = some c163_0 := rfl
theorem f163_20 : jfind c163_0 20 = some c163_20 := rfl
theorem f166_0 : jfind c166_0 0 = some c166_0 := rfl
theorem f166_10 : jfind c166_0 10 = some c166_10 := rfl
theorem f166_12 : jfind c166_0 12 = some c166_12 := rfl
theorem f166_22 : jfind c166_0 22 = some c166_22 := rfl
theorem f166_38 : jfind c166_0 38 = some c166_38 := rfl
theorem f167_0 : jfind c167_0 0 = some c167_0 := rfl
theorem f167_20 : jfind c167_0 20 = some c167_20 := rfl
theorem f168_0 : jfind c168_0 0 = some c168_0 := rfl
theorem f168_26 : jfind c168_0 26 = some c168_26 := rfl
theorem f169_0 : jfind c169_0 0 = some c169_0 := rfl
theorem f169_20 : jfind c169_0 20 = some c169_20 := rfl
theorem f169_23 : jfind c169_0 23 = some c169_23 := rfl
theorem f170_0 : jfind c170_0 0 = some c170_0 := rfl
theorem f170_15 : jfind c170_0 15 = some c170_15 := rfl
theorem f170_43 : jfind c170_0 43 = some c170_43 := rfl
theorem f170_46 : jfind c170_0 46 = some c170_46 := rfl
theorem f171_0 : jfind c171_0 0 = some c171_0 := rfl
theorem f171_29 : jfind c171_0 29 = some c171_29 := rfl
theorem f171_33 : jfind c171_0 33 = some c171_33 := rfl
theorem f171_47 : jfind c171_0 47 = some c171_47 := rfl
theorem f172_0 : jfind c172_0 0 = some c172_0 := rfl
theorem f172_10 : jfind c172_0 10 = some c172_10 := rfl
theorem f172_12 : jfind c172_0 12 = some c172_12 := rfl
theorem f172_35 : jfind c172_0 35 = some c172_35 := rfl
theorem f172_37 : jfind c172_0 37 = some c172_37 := rfl
theorem f173_0 : jfind c173_0 0 = some c173_0 := rfl
theorem f173_12 : jfind c173_0 12 = some c173_12 := rfl
theorem f173_42 : jfind c173_0 42 = some c173_42 := rfl
theorem f173_93 : jfind c173_0 93 = some c173_93 := rfl
theorem f174_0 : jfind c174_0 0 = some c174_0 := rfl
theorem f174_15 : jfind c174_0 15 = some c174_15 := rfl
theorem f175_0 : jfind c175_0 0 = some c175_0 := rfl
theorem f175_33 : jfind c175_0 33 = some c175_33 := rfl
theorem f176_0 : jfind c176_0 0 = some c176_0 := rfl
theorem f176_10 : jfind c176_0 10 = some c176_10 := rfl
theorem f177_0 : jfind c177_0 0 = some c177_0 := rfl
theorem f177_16 : jfind c177_0 16 = some c177_16 := rfl
theorem f178_0 : jfind c178_0 0 = some c178_0 := rfl
theorem f178_10 : jfind c178_0 10 = some c178_10 := rfl
theorem f178_14 : jfind c178_0 14 = some c178_14 := rfl
theorem f178_15 : jfind c178_0 15 = some c178_15 := rfl
theorem f178_39 : jfind c178_0 39 = some c178_39 := rfl
theorem f178_41 : jfind c178_0 41 = some c178_41 := rfl
theorem f178_53 : jfind c178_0 53 = some c178_53 := rfl
theorem f178_75 : jfind c178_0 75 = some c178_75 := rfl
theorem f178_76 : jfind c178_0 76 = some c178_76 := rfl
theorem f179_0 : jfind c179_0 0 = some c179_0 := rfl
theorem f179_24 : jfind c179_0 24 = some c179_24 := rfl
theorem f179_26 : jfind c179_0 26 = some c179_26 := rfl
theorem f179_51 : jfind c179_0 51 = some c179_51 := rfl
theorem f179_53 : jfind c179_0 53 = some c179_53 := rfl
theorem f180_0 : jfind c180_0 0 = some c180_0 := rfl
theorem f180_24 : jfind c180_0 24 = some c180_24 := rfl
theorem f181_0 : jfind c181_0 0 = some c181_0 := rfl
theorem f181_43 : jfind c181_0 43 = some c181_43 := rfl
theorem f182_0 : jfind c182_0 0 = some c182_0 := rfl
theorem f182_35 : jfind c182_0 35 = some c182_35 := rfl
theorem f183_0 : jfind c183_0 0 = some c183_0 := rfl
theorem f183_41 : jfind c183_0 41 = some c183_41 := rfl
theorem f184_0 : jfind c184_0 0 = some c184_0 := rfl
theorem f184_22 : jfind c184_0 22 = some c184_22 := rfl
theorem f185_0 : jfind c185_0 0 = some c185_0 := rfl
theorem f185_40 : jfind c185_0 40 = some c185_40 := rfl
theorem f186_0 : jfind c186_0 0 = some c186_0 := rfl
theorem f186_15 : jfind c186_0 15 = some c186_15 := rfl
theorem f186_24 : jfind c186_0 24 = some c186_24 := rfl
theorem f187_0 : jfind c187_0 0 = some c187_0 := rfl
theorem f187_45 : jfind c187_0 45 = some c187_45 := rfl
theorem f188_0 : jfind c188_0 0 = some c188_0 := rfl
theorem f188_57 : jfind c188_0 57 = some c188_57 := rfl
theorem f189_0 : jfind c189_0 0 = some c189_0 := rfl
theorem f189_20 : jfind c189_0 20 = some c189_20 := rfl
theorem f190_0 : jfind c190_0 0 = some c190_0 := rfl
theorem f190_50 : jfind c190_0 50 = some c190_50 := rfl
theorem f191_0 : jfind c191_0 0 = some c191_0 := rfl
theorem f191_33 : jfind c191_0 33 = some c191_33 := rfl
theorem f192_0 : jfind c192_0 0 = some c192_0 := rfl
theorem f192_12 : jfind c192_0 12 = some c192_12 := rfl
theorem f193_0 : jfind c193_0 0 = some c193_0 := rfl
theorem f193_29 : jfind c193_0 29 = some c193_29 := rfl
theorem f194_0 : jfind c194_0 0 = some c194_0 := rfl
theorem f194_38 : jfind c194_0 38 = some c194_38 := rfl
theorem f195_0 : jfind c195_0 0 = some c195_0 := rfl
theorem f195_20 : jfind c195_0 20 = some c195_20 := rfl
theorem f195_22 : jfind c195_0 22 = some c195_22 := rfl
theorem f196_0 : jfind c196_0 0 = some c196_0 := rfl
theorem f196_43 : jfind c196_0 43 = some c196_43 := rfl
theorem f197_0 : jfind c197_0 0 = some c197_0 := rfl
theorem f197_15 : jfind c197_0 15 = some c197_15 := rfl
theorem f197_19 : jfind c197_0 19 = some c197_19 := rfl
theorem f197_27 : jfind c197_0 27 = some c197_27 := rfl
theorem f198_0 : jfind c198_0 0 = some c198_0 := rfl
theorem f198_10 : jfind c198_0 10 = some c198_10 := rfl
theorem f198_23 : jfind c198_0 23 = some c198_23 := rfl
theorem f199_0 : jfind c199_0 0 = some c199_0 := rfl
theorem f199_17 : jfind c199_0 17 = some c199_17 := rfl
theorem f199_21 : jfind c199_0 21 = some c199_21 := rfl
theorem f199_29 : jfind c199_0 29 = some c199_29 := rfl
theorem f200_0 : jfind c200_0 0 = some c200_0 := rfl
theorem f200_31 : jfind c200_0 31 = some c200_31 := rfl
theorem f200_33 : jfind c200_0 33 = some c200_33 := rfl
theorem f201_0 : jfind c201_0 0 = some c201_0 := rfl
theorem f201_10 : jfind c201_0 10 = some c201_10 := rfl
theorem f201_14 : jfind c201_0 14 = some c201_14 := rfl
theorem f201_22 : jfind c201_0 22 = some c201_22 := rfl
theorem f202_0 : jfind c202_0 0 = some c202_0 := rfl
theorem f202_19 : jfind c202_0 19 = some c202_19 := rfl
theorem f202_23 : jfind c202_0 23 = some c202_23 := rfl
theorem f202_32 : jfind c202_0 32 = some c202_32 := rfl
theorem f203_0 : jfind c203_0 0 = some c203_0 := rfl
theorem f204_0 : jfind c204_0 0 = some c204_0 := rfl
theorem f204_20 : jfind c204_0 20 = some c204_20 := rfl
theorem f204_24 : jfind c204_0 24 = some c204_24 := rfl
theorem f204_33 : jfind c204_0 33 = some c204_33 := rfl
theorem f205_0 : jfind c205_0 0 = some c205_0 := rfl
theorem f205_21 : jfind c205_0 21 = some c205_21 := rfl
theorem f205_23 : jfind c205_0 23 = some c205_23 := rfl
theorem f205_36 : jfind c205_0 36 = some c205_36 := rfl
theorem f205_50 : jfind c205_0 50 = some c205_50 := rfl
theorem f206_0 : jfind c206_0 0 = some c206_0 := rfl
theorem f206_20 : jfind c206_0 20 = some c206_20 := rfl
theorem f206_22 : jfind c206_0 22 = some c206_22 := rfl
theorem f207_0 : jfind c207_0 0 = some c207_0 := rfl
theorem f207_18 : jfind c207_0 18 = some c207_18 := rfl
theorem f207_20 : jfind c207_0 20 = some c207_20 := rfl
theorem f207_32 : jfind c207_0 32 = some c207_32 := rfl
theorem f208_0 : jfind c208_0 0 = some c208_0 := rfl
theorem f208_53 : jfind c208_0 53 = some c208_53 := rfl
theorem f208_57 : jfind c208_0 57 = some c208_57 := rfl
theorem f208_78 : jfind c208_0 78 = some c208_78 := rfl
theorem f208_92 : jfind c208_0 92 = some c208_92 := rfl
theorem f209_0 : jfind c209_0 0 = some c209_0 := rfl
theorem f209_24 : jfind c209_0 24 = some c209_24 := rfl
theorem f210_0 : jfind c210_0 0 = some c210_0 := rfl
theorem f210_28 : jfind c210_0 28 = some c210_28 := rfl
theorem f211_0 : jfind c211_0 0 = some c211_0 := rfl
theorem f211_22 : jfind c211_0 22 = some c211_22 := rfl
theorem f212_0 : jfind c212_0 0 = some c212_0 := rfl
theorem f212_20 : jfind c212_0 20 = some c212_20 := rfl
theorem f212_22 : jfind c212_0 22 = some c212_22 := rfl
theorem f212_36 : jfind c212_0 36 = some c212_36 := rfl
theorem f212_40 : jfind c212_0 40 = some c212_40 := rfl
theorem f213_0 : jfind c213_0 0 = some c213_0 := rfl
theorem f213_22 : jfind c213_0 22 = some c213_22 := rfl
theorem f213_24 : jfind c213_0 24 = some c213_24 := rfl
theorem f213_31 : jfind c213_0 31 = some c213_31 := rfl
theorem f213_48 : jfind c213_0 48 = some c213_48 := rfl
theorem f213_73 : jfind c213_0 73 = some c213_73 := rfl
theorem f214_0 : jfind c214_0 0 = some c214_0 := rfl
theorem f214_16 : jfind c214_0 16 = some c214_16 := rfl
theorem f215_0 : jfind c215_0 0 = some c215_0 := rfl
theorem f215_15 : jfind c215_0 15 = some c215_15 := rfl
theorem f215_26 : jfind c215_0 26 = some c215_26 := rfl
theorem f216_0 : jfind c216_0 0 = some c216_0 := rfl
theorem f216_14 : jfind c216_0 14 = some c216_14 := rfl
theorem f216_16 : jfind c216_0 16 = some c216_16 := rfl
theorem f216_36 : jfind c216_0 36 = some c216_36 := rfl
theorem f217_0 : jfind c217_0 0 = some c217_0 := rfl
theorem f217_16 : jfind c217_0 16 = some c217_16 := rfl
theorem f217_18 : jfind c217_0 18 = some c217_18 := rfl
theorem f217_31 : jfind c217_0 31 = some c217_31 := rfl
theorem f218_0 : jfind c218_0 0 = some c218_0 := rfl
theorem f218_40 : jfind c218_0 40 = some c218_40 := rfl
theorem f218_48 : jfind c218_0 48 = some c218_48 := rfl
theorem f218_53 : jfind c218_0 53 = some c218_53 := rfl
theorem f218_61 : jfind c218_0 61 = some c218_61 := rfl
theorem f218_66 : jfind c218_0 66 = some c218_66 := rfl
theorem f218_71 : jfind c218_0 71 = some c218_71 := rfl
theorem f218_79 : jfind c218_0 79 = some c218_79 := rfl
theorem f219_0 : jfind c219_0 0 = some c219_0 := rfl
theorem f219_12 : jfind c219_0 12 = some c219_12 := rfl
theorem f219_16 : jfind c219_0 16 = some c219_16 := rfl
theorem f219_22 : jfind c219_0 22 = some c219_22 := rfl
theorem f220_0 : jfind c220_0 0 = some c220_0 := rfl
theorem f220_12 : jfind c220_0 12 = some c220_12 := rfl
theorem f220_16 : jfind c220_0 16 = some c220_16 := rfl
theorem f220_22 : jfind c220_0 22 = some c220_22 := rfl
theorem f221_0 : jfind c221_0 0 = some c221_0 := rfl
theorem f221_9 : jfind c221_0 9 = some c221_9 := rfl
theorem f221_13 : jfind c221_0 13 = some c221_13 := rfl
theorem f221_14 : jfind c221_0 14 = some c221_14 := rfl
theorem f222_0 : jfind c222_0 0 = some c222_0 := rfl
theorem f222_14 : jfind c222_0 14 = some c222_14 := rfl
theorem f222_15 : jfind c222_0 15 = some c222_15 := rfl
theorem f223_0 : jfind c223_0 0 = some c223_0 := rfl
theorem f223_11 : jfind c223_0 11 = some c223_11 := rfl
theorem f223_27 : jfind c223_0 27 = some c223_27 := rfl
theorem f223_28 : jfind c223_0 28 = some c223_28 := rfl
theorem f223_42 : jfind c223_0 42 = some c223_42 := rfl
theorem f223_47 : jfind c223_0 47 = some c223_47 := rfl
theorem f224_0 : jfind c224_0 0 = some c224_0 := rfl
theorem f224_9 : jfind c224_0 9 = some c224_9 := rfl
theorem f224_45 : jfind c224_0 45 = some c224_45 := rfl
theorem f225_0 : jfind c225_0 0 = some c225_0 := rfl
theorem f225_36 : jfind c225_0 36 = some c225_36 := rfl
theorem f225_50 : jfind c225_0 50 = some c225_50 := rfl
theorem f225_64 : jfind c225_0 64 = some c225_64 := rfl
theorem f225_78 : jfind c225_0 78 = some c225_78 := rfl
theorem f225_92 : jfind c225_0 92 = some c225_92 := rfl
theorem f225_106 : jfind c225_0 106 = some c225_106 := rfl
theorem f239_0 : jfind c239_0 0 = some c239_0 := rfl
theorem f239_9 : jfind c239_0 9 = some c239_9 := rfl
theorem f239_22 : jfind c239_0 22 = some c239_22 := rfl
theorem f242_0 : jfind c242_0 0 = some c242_0 := rfl
theorem f242_14 : jfind c242_0 14 = some c242_14 := rfl
theorem f242_15 : jfind c242_0 15 = some c242_15 := rfl
theorem f243_0 : jfind c243_0 0 = some c243_0 := rfl
theorem f243_11 : jfind c243_0 11 = some c243_11 := rfl
theorem f243_17 : jfind c243_0 17 = some c243_17 := rfl
theorem f243_42 : jfind c243_0 42 = some c243_42 := rfl
theorem f243_53 : jfind c243_0 53 = some c243_53 := rfl
theorem f244_0 : jfind c244_0 0 = some c244_0 := rfl
theorem f244_19 : jfind c244_0 19 = some c244_19 := rfl
theorem f244_23 : jfind c244_0 23 = some c244_23 := rfl
theorem f245_0 : jfind c245_0 0 = some c245_0 := rfl
theorem f247_0 : jfind c247_0 0 = some c247_0 := rfl
theorem f247_11 : jfind c247_0 11 = some c247_11 := rfl
theorem f247_21 : jfind c247_0 21 = some c247_21 := rfl
theorem f247_32 : jfind c247_0 32 = some c247_32 := rfl
theorem f247_50 : jfind c247_0 50 = some c247_50 := rfl
theorem f247_77 : jfind c247_0 77 = some c247_77 := rfl
theorem f248_0 : jfind c248_0 0 = some c248_0 := rfl
theorem f248_19 : jfind c248_0 19 = some c248_19 := rfl
theorem f249_0 : jfind c249_0 0 = some c249_0 := rfl
theorem f249_43 : jfind c249_0 43 = some c249_43 := rfl
theorem f250_0 : jfind c250_0 0 = some c250_0 := rfl
theorem f250_21 : jfind c250_0 21 = some c250_21 := rfl
theorem f253_0 : jfind c253_0 0 = some c253_0 := rfl
theorem f253_45 : jfind c253_0 45 = some c253_45 := rfl
theorem f254_0 : jfind c254_0 0 = some c254_0 := rfl
theorem f255_0 : jfind c255_0 0 = some c255_0 := rfl
theorem f255_100 : jfind c255_0 100 = some c255_100 := rfl
theorem f256_0 : jfind c256_0 0 = some c256_0 := rfl
theorem f256_19 : jfind c256_0 19 = some c256_19 := rfl
theorem f256_55 : jfind c256_0 55 = some c256_55 := rfl
theorem f256_57 : jfind c256_0 57 = some c256_57 := rfl
theorem f256_110 : jfind c256_0 110 = some c256_110 := rfl
theorem f256_127 : jfind c256_0 127 = some c256_127 := rfl
theorem f257_0 : jfind c257_0 0 = some c257_0 := rfl
theorem f257_15 : jfind c257_0 15 = some c257_15 := rfl
theorem f257_19 : jfind c257_0 19 = some c257_19 := rfl
theorem f257_84 : jfind c257_0 84 = some c257_84 := rfl
theorem f257_100 : jfind c257_0 100 = some c257_100 := rfl
theorem f257_103 : jfind c257_0 103 = some c257_103 := rfl
theorem f258_0 : jfind c258_0 0 = some c258_0 := rfl
theorem f258_15 : jfind c258_0 15 = some c258_15 := rfl
theorem f258_17 : jfind c258_0 17 = some c258_17 := rfl
theorem f258_51 : jfind c258_0 51 = some c258_51 := rfl
theorem f259_0 : jfind c259_0 0 = some c259_0 := rfl
theorem f259_49 : jfind c259_0 49 = some c259_49 := rfl
theorem f260_0 : jfind c260_0 0 = some c260_0 := rfl
theorem f260_25 : jfind c260_0 25 = some c260_25 := rfl
theorem f260_29 : jfind c260_0 29 = some c260_29 := rfl
theorem f260_40 : jfind c260_0 40 = some c260_40 := rfl
theorem f260_49 : jfind c260_0 49 = some c260_49 := rfl
theorem f260_71 : jfind c260_0 71 = some c260_71 := rfl
theorem f260_105 : jfind c260_0 105 = some c260_105 := rfl
theorem f260_111 : jfind c260_0 111 = some c260_111 := rfl
theorem f261_0 : jfind c261_0 0 = some c261_0 := rfl
theorem f262_0 : jfind c262_0 0 = some c262_0 := rfl
theorem f262_28 : jfind c262_0 28 = some c262_28 := rfl
theorem f263_0 : jfind c263_0 0 = some c263_0 := rfl
theorem f263_11 : jfind c263_0 11 = some c263_11 := rfl
theorem f263_26 : jfind c263_0 26 = some c263_26 := rfl
theorem f263_28 : jfind c263_0 28 = some c263_28 := rfl
theorem f263_65 : jfind c263_0 65 = some c263_65 := rfl
theorem f264_0 : jfind c264_0 0 = some c264_0 := rfl
theorem f264_17 : jfind c264_0 17 = some c264_17 := rfl
theorem f265_0 : jfind c265_0 0 = some c265_0 := rfl
theorem f266_0 : jfind c266_0 0 = some c266_0 := rfl
theorem f272_0 : jfind c272_0 0 = some c272_0 := rfl
theorem f272_24 : jfind c272_0 24 = some c272_24 := rfl
theorem f272_41 : jfind c272_0 41 = some c272_41 := rfl
theorem f272_56 : jfind c272_0 56 = some c272_56 := rfl
theorem f272_64 : jfind c272_0 64 = some c272_64 := rfl
theorem f272_92 : jfind c272_0 92 = some c272_92 := rfl
theorem f273_0 : jfind c273_0 0 = some c273_0 := rfl
theorem f273_112 : jfind c273_0 112 = some c273_112 := rfl
theorem f273_129 : jfind c273_0 129 = some c273_129 := rfl
theorem f273_146 : jfind c273_0 146 = some c273_146 := rfl
theorem f274_0 : jfind c274_0 0 = some c274_0 := rfl
theorem f274_12 : jfind c274_0 12 = some c274_12 := rfl
theorem f274_44 : jfind c274_0 44 = some c274_44 := rfl
theorem f275_0 : jfind c275_0 0 = some c275_0 := rfl
theorem f275_12 : jfind c275_0 12 = some c275_12 := rfl
theorem f277_0 : jfind c277_0 0 = some c277_0 := rfl
theorem f277_28 : jfind c277_0 28 = some c277_28 := rfl
theorem f278_0 : jfind c278_0 0 = some c278_0 := rfl
theorem f278_32 : jfind c278_0 32 = some c278_32 := rfl
theorem f278_36 : jfind c278_0 36 = some c278_36 := rfl
theorem f278_70 : jfind c278_0 70 = some c278_70 := rfl
theorem f278_71 : jfind c278_0 71 = some c278_71 := rfl
theorem f281_0 : jfind c281_0 0 = some c281_0 := rfl
theorem f281_42 : jfind c281_0 42 = some c281_42 := rfl
theorem f282_0 : jfind c282_0 0 = some c282_0 := rfl
theorem f282_10 : jfind c282_0 10 = some c282_10 := rfl
theorem f283_0 : jfind c283_0 0 = some c283_0 := rfl
theorem f283_10 : jfind c283_0 10 = some c283_10 := rfl
theorem f284_0 : jfind c284_0 0 = some c284_0 := rfl
theorem f285_0 : jfind c285_0 0 = some c285_0 := rfl
theorem f285_24 : jfind c285_0 24 = some c285_24 := rfl
theorem f285_26 : jfind c285_0 26 = some c285_26 := rfl
theorem f285_38 : jfind c285_0 38 = some c285_38 := rfl
theorem f285_65 : jfind c285_0 65 = some c285_65 := rfl
theorem f285_66 : jfind c285_0 66 = some c285_66 := rfl
theorem f286_0 : jfind c286_0 0 = some c286_0 := rfl
theorem f286_23 : jfind c286_0 23 = some c286_23 := rfl
theorem f286_25 : jfind c286_0 25 = some c286_25 := rfl
theorem f286_37 : jfind c286_0 37 = some c286_37 := rfl
theorem f290_0 : jfind c290_0 0 = some c290_0 := rfl
theorem f290_41 : jfind c290_0 41 = some c290_41 := rfl
theorem f301_0 : jfind c301_0 0 = some c301_0 := rfl
theorem f301_25 : jfind c301_0 25 = some c301_25 := rfl
theorem f302_0 : jfind c302_0 0 = some c302_0 := rfl
theorem f302_30 : jfind c302_0 30 = some c302_30 := rfl
theorem f303_0 : jfind c303_0 0 = some c303_0 := rfl
theorem f303_25 : jfind c303_0 25 = some c303_25 := rfl
theorem f304_0 : jfind c304_0 0 = some c304_0 := rfl
theorem f304_16 : jfind c304_0 16 = some c304_16 := rfl
theorem f306_0 : jfind c306_0 0 = some c306_0 := rfl
theorem f306_40 : jfind c306_0 40 = some c306_40 := rfl
theorem f308_0 : jfind c308_0 0 = some c308_0 := rfl
theorem f308_13 : jfind c308_0 13 = some c308_13 := rfl
theorem f312_0 : jfind c312_0 0 = some c312_0 := rfl
theorem f312_30 : jfind c312_0 30 = some c312_30 := rfl
theorem f313_0 : jfind c313_0 0 = some c313_0 := rfl
theorem f313_39 : jfind c313_0 39 = some c313_39 := rfl
theorem f314_0 : jfind c314_0 0 = some c314_0 := rfl
theorem f314_15 : jfind c314_0 15 = some c314_15 := rfl
theorem f319_0 : jfind c319_0 0 = some c319_0 := rfl
theorem f319_43 : jfind c319_0 43 = some c319_43 := rfl
theorem f320_0 : jfind c320_0 0 = some c320_0 := rfl
theorem f320_20 : jfind c320_0 20 = some c320_20 := rfl
theorem f321_0 : jfind c321_0 0 = some c321_0 := rfl
theorem f321_10 : jfind c321_0 10 = some c321_10 := rfl
theorem f322_0 : jfind c322_0 0 = some c322_0 := rfl
theorem f322_62 : jfind c322_0 62 = some c322_62 := rfl
theorem f327_0 : jfind c327_0 0 = some c327_0 := rfl
theorem f327_20 : jfind c327_0 20 = some c327_20 := rfl
theorem f329_0 : jfind c329_0 0 = some c329_0 := rfl
theorem f329_20 : jfind c329_0 20 = some c329_20 := rfl
theorem f330_0 : jfind c330_0 0 = some c330_0 := rfl
theorem f330_18 : jfind c330_0 18 = some c330_18 := rfl
theorem f330_20 : jfind c330_0 20 = some c330_20 := rfl
theorem f330_32 : jfind c330_0 32 = some c330_32 := rfl
theorem f330_51 : jfind c330_0 51 = some c330_51 := rfl
theorem f331_0 : jfind c331_0 0 = some c331_0 := rfl
theorem f331_46 : jfind c331_0 46 = some c331_46 := rfl
theorem f333_0 : jfind c333_0 0 = some c333_0 := rfl
theorem f333_12 : jfind c333_0 12 = some c333_12 := rfl
theorem f336_0 : jfind c336_0 0 = some c336_0 := rfl
theorem f336_13 : jfind c336_0 13 = some c336_13 := rfl
theorem f336_29 : jfind c336_0 29 = some c336_29 := rfl
theorem f338_0 : jfind c338_0 0 = some c338_0 := rfl
theorem f338_16 : jfind c338_0 16 = some c338_16 := rfl
theorem f339_0 : jfind c339_0 0 = some c339_0 := rfl
theorem f339_30 : jfind c339_0 30 = some c339_30 := rfl
theorem f339_32 : jfind c339_0 32 = some c339_32 := rfl
theorem f339_43 : jfind c339_0 43 = some c339_43 := rfl
theorem f340_0 : jfind c340_0 0 = some c340_0 := rfl
theorem f340_12 : jfind c340_0 12 = some c340_12 := rfl
theorem f340_40 : jfind c340_0 40 = some c340_40 := rfl
theorem f340_51 : jfind c340_0 51 = some c340_51 := rfl
theorem f345_0 : jfind c345_0 0 = some c345_0 := rfl
theorem f345_19 : jfind c345_0 19 = some c345_19 := rfl
theorem f345_21 : jfind c345_0 21 = some c345_21 := rfl
theorem f345_35 : jfind c345_0 35 = some c345_35 := rfl
theorem f346_0 : jfind c346_0 0 = some c346_0 := rfl
theorem f347_0 : jfind c347_0 0 = some c347_0 := rfl
theorem f347_20 : jfind c347_0 20 = some c347_20 := rfl
theorem f347_22 : jfind c347_0 22 = some c347_22 := rfl
theorem f347_33 : jfind c347_0 33 = some c347_33 := rfl
theorem f349_0 : jfind c349_0 0 = some c349_0 := rfl
theorem f349_20 : jfind c349_0 20 = some c349_20 := rfl
theorem f349_22 : jfind c349_0 22 = some c349_22 := rfl
theorem f349_39 : jfind c349_0 39 = some c349_39 := rfl
theorem f349_50 : jfind c349_0 50 = some c349_50 := rfl
theorem f350_0 : jfind c350_0 0 = some c350_0 := rfl
theorem f350_35 : jfind c350_0 35 = some c350_35 := rfl
theorem f350_36 : jfind c350_0 36 = some c350_36 := rfl
theorem f351_0 : jfind c351_0 0 = some c351_0 := rfl
theorem f351_20 : jfind c351_0 20 = some c351_20 := rfl
theorem f351_22 : jfind c351_0 22 = some c351_22 := rfl
theorem f352_0 : jfind c352_0 0 = some c352_0 := rfl
theorem f352_17 : jfind c352_0 17 = some c352_17 := rfl
theorem f352_19 : jfind c352_0 19 = some c352_19 := rfl
theorem f352_43 : jfind c352_0 43 = some c352_43 := rfl
theorem f352_55 : jfind c352_0 55 = some c352_55 := rfl
theorem f353_0 : jfind c353_0 0 = some c353_0 := rfl
theorem f353_56 : jfind c353_0 56 = some c353_56 := rfl
theorem f353_60 : jfind c353_0 60 = some c353_60 := rfl
theorem f353_77 : jfind c353_0 77 = some c353_77 := rfl
theorem f353_128 : jfind c353_0 128 = some c353_128 := rfl
theorem f353_130 : jfind c353_0 130 = some c353_130 := rfl
theorem f353_172 : jfind c353_0 172 = some c353_172 := rfl
theorem f353_180 : jfind c353_0 180 = some c353_180 := rfl
theorem f353_203 : jfind c353_0 203 = some c353_203 := rfl
theorem f353_218 : jfind c353_0 218 = some c353_218 := rfl
theorem f353_220 : jfind c353_0 220 = some c353_220 := rfl
theorem f354_0 : jfind c354_0 0 = some c354_0 := rfl
theorem f354_19 : jfind c354_0 19 = some c354_19 := rfl
theorem f367_0 : jfind c367_0 0 = some c367_0 := rfl
theorem f367_22 : jfind c367_0 22 = some c367_22 := rfl
theorem f368_0 : jfind c368_0 0 = some c368_0 := rfl
theorem f368_27 : jfind c368_0 27 = some c368_27 := rfl
theorem f369_0 : jfind c369_0 0 = some c369_0 := rfl
theorem f369_40 : jfind c369_0 40 = some c369_40 := rfl
theorem f369_45 : jfind c369_0 45 = some c369_45 := rfl
theorem f369_50 : jfind c369_0 50 = some c369_50 := rfl
theorem f369_55 : jfind c369_0 55 = some c369_55 := rfl
theorem f369_60 : jfind c369_0 60 = some c369_60 := rfl
theorem f369_65 : jfind c369_0 65 = some c369_65 := rfl
theorem f369_70 : jfind c369_0 70 = some c369_70 := rfl
theorem f370_0 : jfind c370_0 0 = some c370_0 := rfl
theorem f371_0 : jfind c371_0 0 = some c371_0 := rfl
theorem f371_20 : jfind c371_0 20 = some c371_20 := rfl
theorem f371_22 : jfind c371_0 22 = some c371_22 := rfl
theorem f372_0 : jfind c372_0 0 = some c372_0 := rfl
theorem f372_22 : jfind c372_0 22 = some c372_22 := rfl
theorem f372_24 : jfind c372_0 24 = some c372_24 := rfl
theorem f372_31 : jfind c372_0 31 = some c372_31 := rfl
theorem f372_54 : jfind c372_0 54 = some c372_54 := rfl
theorem f372_80 : jfind c372_0 80 = some c372_80 := rfl
theorem f373_0 : jfind c373_0 0 = some c373_0 := rfl
theorem f373_9 : jfind c373_0 9 = some c373_9 := rfl
theorem f373_22 : jfind c373_0 22 = some c373_22 := rfl
theorem f374_0 : jfind c374_0 0 = some c374_0 := rfl
theorem f374_16 : jfind c374_0 16 = some c374_16 := rfl
theorem f375_0 : jfind c375_0 0 = some c375_0 := rfl
theorem f375_15 : jfind c375_0 15 = some c375_15 := rfl
theorem f375_26 : jfind c375_0 26 = some c375_26 := rfl
theorem f376_0 : jfind c376_0 0 = some c376_0 := rfl
theorem f376_14 : jfind c376_0 14 = some c376_14 := rfl
theorem f376_16 : jfind c376_0 16 = some c376_16 := rfl
theorem f376_36 : jfind c376_0 36 = some c376_36 := rfl
theorem f377_0 : jfind c377_0 0 = some c377_0 := rfl
theorem f377_16 : jfind c377_0 16 = some c377_16 := rfl
theorem f377_18 : jfind c377_0 18 = some c377_18 := rfl
theorem f377_31 : jfind c377_0 31 = some c377_31 := rfl
theorem f378_0 : jfind c378_0 0 = some c378_0 := rfl
theorem f378_27 : jfind c378_0 27 = some c378_27 := rfl
theorem f380_0 : jfind c380_0 0 = some c380_0 := rfl
theorem f380_10 : jfind c380_0 10 = some c380_10 := rfl
theorem f380_11 : jfind c380_0 11 = some c380_11 := rfl
theorem f381_0 : jfind c381_0 0 = some c381_0 := rfl
theorem f381_9 : jfind c381_0 9 = some c381_9 := rfl
theorem f381_10 : jfind c381_0 10 = some c381_10 := rfl
theorem f382_0 : jfind c382_0 0 = some c382_0 := rfl
theorem f382_10 : jfind c382_0 10 = some c382_10 := rfl
theorem f383_0 : jfind c383_0 0 = some c383_0 := rfl
theorem f383_5 : jfind c383_0 5 = some c383_5 := rfl
theorem f383_20 : jfind c383_0 20 = some c383_20 := rfl
set_option maxRecDepth 100000 in
theorem f384_18 : jfind c384_0 18 = some c384_18 := rfl
set_option maxRecDepth 100000 in
theorem f384_260 : jfind c384_0 260 = some c384_260 := rfl
set_option maxRecDepth 100000 in
theorem f384_283 : jfind c384_0 283 = some c384_283 := rfl
set_option maxRecDepth 100000 in
theorem f384_316 : jfind c384_0 316 = some c384_316 := rfl
set_option maxRecDepth 100000 in
theorem f384_369 : jfind c384_0 369 = some c384_369 := rfl
set_option maxRecDepth 100000 in
theorem f384_383 : jfind c384_0 383 = some c384_383 := rfl
set_option maxRecDepth 100000 in
theorem f384_407 : jfind c384_0 407 = some c384_407 := rfl
set_option maxRecDepth 100000 in
theorem f384_451 : jfind c384_0 451 = some c384_451 := rfl
set_option maxRecDepth 100000 in
theorem f384_484 : jfind c384_0 484 = some c384_484 := rfl
set_option maxRecDepth 100000 in
theorem f384_497 : jfind c384_0 497 = some c384_497 := rfl
set_option maxRecDepth 100000 in
theorem f384_540 : jfind c384_0 540 = some c384_540 := rfl
set_option maxRecDepth 100000 in
theorem f384_593 : jfind c384_0 593 = some c384_593 := rfl
set_option maxRecDepth 100000 in
theorem f384_606 : jfind c384_0 606 = some c384_606 := rfl
set_option maxRecDepth 100000 in
theorem f384_619 : jfind c384_0 619 = some c384_619 := rfl
set_option maxRecDepth 100000 in
theorem f384_652 : jfind c384_0 652 = some c384_652 := rfl
set_option maxRecDepth 100000 in
theorem f384_685 : jfind c384_0 685 = some c384_685 := rfl
set_option maxRecDepth 100000 in
theorem f384_718 : jfind c384_0 718 = some c384_718 := rfl
set_option maxRecDepth 100000 in
theorem f384_762 : jfind c384_0 762 = some c384_762 := rfl
set_option maxRecDepth 100000 in
theorem f384_805 : jfind c384_0 805 = some c384_805 := rfl
set_option maxRecDepth 100000 in
theorem f384_849 : jfind c384_0 849 = some c384_849 := rfl
set_option maxRecDepth 100000 in
theorem f384_882 : jfind c384_0 882 = some c384_882 := rfl
set_option maxRecDepth 100000 in
theorem f384_936 : jfind c384_0 936 = some c384_936 := rfl
set_option maxRecDepth 100000 in
theorem f384_969 : jfind c384_0 969 = some c384_969 := rfl
set_option maxRecDepth 100000 in
theorem f384_1013 : jfind c384_0 1013 = some c384_1013 := rfl
set_option maxRecDepth 100000 in
theorem f384_1067 : jfind c384_0 1067 = some c384_1067 := rfl
set_option maxRecDepth 100000 in
theorem f384_1090 : jfind c384_0 1090 = some c384_1090 := rfl
set_option maxRecDepth 100000 in
theorem f384_1133 : jfind c384_0 1133 = some c384_1133 := rfl
set_option maxRecDepth 100000 in
theorem f384_1186 : jfind c384_0 1186 = some c384_1186 := rfl
set_option maxRecDepth 100000 in
theorem f384_1209 : jfind c384_0 1209 = some c384_1209 := rfl
set_option maxRecDepth 100000 in
theorem f384_1262 : jfind c384_0 1262 = some c384_1262 := rfl
set_option maxRecDepth 100000 in
theorem f384_1316 : jfind c384_0 1316 = some c384_1316 := rfl
set_option maxRecDepth 100000 in
theorem f384_1349 : jfind c384_0 1349 = some c384_1349 := rfl
set_option maxRecDepth 100000 in
theorem f384_1392 : jfind c384_0 1392 = some c384_1392 := rfl
set_option maxRecDepth 100000 in
theorem f384_1415 : jfind c384_0 1415 = some c384_1415 := rfl
set_option maxRecDepth 100000 in
theorem f384_1438 : jfind c384_0 1438 = some c384_1438 := rfl
set_option maxRecDepth 100000 in
theorem f384_1461 : jfind c384_0 1461 = some c384_1461 := rfl
set_option maxRecDepth 100000 in
theorem f384_1504 : jfind c384_0 1504 = some c384_1504 := rfl
set_option maxRecDepth 100000 in
theorem f384_1527 : jfind c384_0 1527 = some c384_1527 := rfl
set_option maxRecDepth 100000 in
theorem f384_1560 : jfind c384_0 1560 = some c384_1560 := rfl
set_option maxRecDepth 100000 in
theorem f384_1573 : jfind c384_0 1573 = some c384_1573 := rfl
set_option maxRecDepth 100000 in
theorem f384_1606 : jfind c384_0 1606 = some c384_1606 := rfl
set_option maxRecDepth 100000 in
theorem f384_1639 : jfind c384_0 1639 = some c384_1639 := rfl
set_option maxRecDepth 100000 in
theorem f384_1692 : jfind c384_0 1692 = some c384_1692 := rfl
set_option maxRecDepth 100000 in
theorem f384_1735 : jfind c384_0 1735 = some c384_1735 := rfl
set_option maxRecDepth 100000 in
theorem f384_1779 : jfind c384_0 1779 = some c384_1779 := rfl
set_option maxRecDepth 100000 in
theorem f384_1822 : jfind c384_0 1822 = some c384_1822 := rfl
set_option maxRecDepth 100000 in
theorem f384_1865 : jfind c384_0 1865 = some c384_1865 := rfl
set_option maxRecDepth 100000 in
theorem f384_1888 : jfind c384_0 1888 = some c384_1888 := rfl
set_option maxRecDepth 100000 in
theorem f384_1921 : jfind c384_0 1921 = some c384_1921 := rfl
set_option maxRecDepth 100000 in
theorem f384_1964 : jfind c384_0 1964 = some c384_1964 := rfl
set_option maxRecDepth 100000 in
theorem f384_2037 : jfind c384_0 2037 = some c384_2037 := rfl
set_option maxRecDepth 100000 in
theorem f384_2071 : jfind c384_0 2071 = some c384_2071 := rfl
set_option maxRecDepth 100000 in
theorem f384_2134 : jfind c384_0 2134 = some c384_2134 := rfl
set_option maxRecDepth 100000 in
theorem f384_2167 : jfind c384_0 2167 = some c384_2167 := rfl
set_option maxRecDepth 100000 in
theorem f384_2190 : jfind c384_0 2190 = some c384_2190 := rfl
set_option maxRecDepth 100000 in
theorem f384_2196 : jfind c384_0 2196 = some c384_2196 := rfl
theorem jmulb {x y a b : Int} (h1 : 0 ≤ x) (h2 : x ≤ a) (h3 : 0 ≤ y) (h4 : y ≤ b) : 0 ≤ x * y ∧ x * y ≤ a * b :=
  ⟨Int.mul_nonneg h1 h3, Int.mul_le_mul h2 h4 h3 (Int.le_trans h1 h2)⟩
theorem jshr_0 {x : Int} (h1 : -2147483648 ≤ x) (h2 : x < 2147483648) : jshr x 0 = x := by
  unfold jshr
  rw [show (Int32.ofInt 0 &&& 31) = 0 by decide]
  have e : Int32.ofInt x >>> (0 : Int32) = Int32.ofInt x := by
    apply Int32.toBitVec_inj.mp
    simp
  rw [e, j32 h1 h2]
theorem jidiv_b {x y : Int} (hy : 0 < y) : (0 ≤ x → 0 ≤ Int.tdiv x y ∧ Int.tdiv x y ≤ x) ∧ (x ≤ 0 → Int.tdiv x y ≤ 0 ∧ x ≤ Int.tdiv x y) := by
  refine ⟨fun h => ?_, fun h => ?_⟩
  · rw [Int.tdiv_eq_ediv_of_nonneg h]
    exact ⟨Int.ediv_nonneg h (by omega), Int.ediv_le_self y h⟩
  · have e : Int.tdiv x y = -(Int.tdiv (-x) y) := by rw [Int.neg_tdiv, Int.neg_neg]
    have h1 := Int.ediv_nonneg (a := -x) (b := y) (by omega) (by omega)
    have h2 := Int.ediv_le_self (a := -x) y (by omega)
    rw [e, Int.tdiv_eq_ediv_of_nonneg (by omega)]
    omega
theorem jirem_b {x y : Int} (hy : 0 < y) : (0 ≤ x → 0 ≤ Int.tmod x y) ∧ Int.tmod x y < y ∧ -y < Int.tmod x y ∧ (x ≤ 0 → Int.tmod x y ≤ 0) := by
  have := jtmod_abs x y (by omega)
  omega
theorem jret_b {pc n : Nat} {z v : Int} {K : List JE} (h : v = 0 ∨ v = 1) : jret ((pc, .ireturn, n, [1], z) :: K) [(0, v)] = some (some (0, v)) := by
  simp [jret, jhd, h]
theorem jcmpL_lt {x y : Int} (h : jcmpL x y < 0) : x < y := by
  unfold jcmpL at h
  split at h
  · assumption
  · split at h <;> omega
theorem jcmpL_ltN {x y : Int} (h : ¬ jcmpL x y < 0) : y ≤ x := by
  unfold jcmpL at h
  split at h
  · omega
  · omega
theorem jcmpL_le {x y : Int} (h : jcmpL x y ≤ 0) : x ≤ y := by
  unfold jcmpL at h
  split at h
  · omega
  · split at h <;> omega
theorem jcmpL_leN {x y : Int} (h : ¬ jcmpL x y ≤ 0) : y < x := by
  unfold jcmpL at h
  split at h
  · omega
  · split at h <;> omega
theorem jcmpL_ge {x y : Int} (h : 0 ≤ jcmpL x y) : y ≤ x := jcmpL_ltN (by omega)
theorem jcmpL_geN {x y : Int} (h : ¬ 0 ≤ jcmpL x y) : x < y := jcmpL_lt (by omega)
theorem jcmpL_gt {x y : Int} (h : 0 < jcmpL x y) : y < x := jcmpL_leN (by omega)
theorem jcmpL_gtN {x y : Int} (h : ¬ 0 < jcmpL x y) : x ≤ y := jcmpL_le (by omega)
theorem jcmpL_eq {x y : Int} (h : jcmpL x y = 0) : x = y := by
  unfold jcmpL at h
  split at h
  · omega
  · split at h
    · assumption
    · omega
theorem jcmpL_eqN {x y : Int} (h : ¬ jcmpL x y = 0) : x ≠ y := by
  intro e
  subst e
  apply h
  unfold jcmpL
  rw [if_neg (by omega), if_pos rfl]
theorem jcmpL_ne {x y : Int} (h : jcmpL x y ≠ 0) : x ≠ y := jcmpL_eqN h
theorem jcmpL_neN {x y : Int} (h : ¬ jcmpL x y ≠ 0) : x = y := jcmpL_eq (by omega)
/-- behind a case: the law's loop ends, with true -/
theorem law_tail {xs : Nat → Int} (h : JH) {cu su : Nat} (h1 : cu ≤ 600000 := by decide) (h2 : su ≤ 7302250 := by decide) : jEv (jOk 8) (some 6) xs c384_0 600000 7302250 (fun v _ => v = some (0, 1)) (c384_2190, [(2, -2), (2, 0), (2, 42), (0, 0)], [], h, cu, su) := by
  refine ev_iinc (w := 6) (L' := [(2, -2), (2, 0), (2, 42), (0, 6)]) rfl (by decide) rfl ?_
  refine ev_goto f384_18 ?_
  refine ev_iload_n rfl ?_
  refine ev_aload_n rfl ?_
  refine ev_saln (m := 6) rfl ?_
  refine ev_bipush ?_
  refine ev_isub (r := 0) (by decide) ?_
  refine ev_icmpgt f384_2196 (fun c1 => ?_) (fun c1 => absurd c1 (by decide))
  refine ev_iconst ?_
  exact ev_ret rfl h1 h2 rfl
