theorem mm_k127_0 : mm_okc (mm_I 127) mm_r127 0 [0, 0, 0, 4239, 0, 0, 0, 0, 0, 0, 4239, 0, 0, 0, 0, 4093, 0, 0, 0, 0, 0, 4094, 0, 4093, 0, 0, 0, 4095, 0, 4093, 0, 0] mm_r127_0 = true := by decide +kernel
theorem mm_k127_1 : mm_okc (mm_I 127) mm_r127 32 [0, 4096, 0, 4093, 0, 0, 0, 4097, 0, 4093, 0, 0, 0, 0, 0, 0, 0, 0, 4098, 0, 0, 4093, 0, 0, 0, 0, 0, 0, 0, 0, 0, 4093] mm_r127_1 = true := by decide +kernel
theorem mm_k127_2 : mm_okc (mm_I 127) mm_r127 64 [0, 0, 0, 4093, 0] mm_r127_2 = true := by decide +kernel
theorem mm_k128_0 : mm_okc (mm_I 128) mm_r128 0 [0, 0, 0, 0, 0, 0, 0, 0, 0, 0] mm_r128_0 = true := by decide +kernel
theorem mm_k129_0 : mm_okc (mm_I 129) mm_r129 0 [0, 0, 5006, 0, 0, 0, 0, 0, 0, 5010, 0, 0, 0, 0, 0, 0, 0, 0, 0, 0, 0, 5013, 5017, 0, 0, 0, 0, 4094, 0, 0, 0, 0] mm_r129_0 = true := by decide +kernel
theorem mm_k129_1 : mm_okc (mm_I 129) mm_r129 32 [4095, 0, 0, 0, 0, 4096, 0, 0, 0, 0, 4097, 0, 0, 0, 0, 0] mm_r129_1 = true := by decide +kernel
theorem mm_k130_0 : mm_okc (mm_I 130) mm_r130 0 [0, 0, 0, 4093, 0, 0, 4239, 0] mm_r130_0 = true := by decide +kernel
theorem mm_k131_0 : mm_okc (mm_I 131) mm_r131 0 [0, 0, 0, 4239, 0] mm_r131_0 = true := by decide +kernel
theorem mm_k132_0 : mm_okc (mm_I 132) mm_r132 0 [0, 0, 0, 0, 4093, 0, 0, 0, 0, 0, 4096, 0, 0, 0, 0, 0, 0, 0, 0, 0, 0] mm_r132_0 = true := by decide +kernel
theorem mm_k133_0 : mm_okc (mm_I 133) mm_r133 0 [0, 0, 0, 5021, 0, 0, 4099, 0, 0, 0, 0, 0, 0, 0, 0, 0, 4094, 0, 0, 0, 0, 0, 4095, 0, 0, 0, 0, 0, 0, 0, 0, 0] mm_r133_0 = true := by decide +kernel
theorem mm_k133_1 : mm_okc (mm_I 133) mm_r133 32 [0, 0, 0, 0, 0, 0, 4095, 0, 0, 0, 0, 0, 0, 0, 4095, 0, 0, 0, 0, 0, 0, 0, 0, 0, 4097, 0, 0, 0, 0, 5033, 0, 0] mm_r133_1 = true := by decide +kernel
theorem mm_k133_2 : mm_okc (mm_I 133) mm_r133 64 [0, 0, 4098, 0, 0, 0, 0, 0, 0, 0, 0, 0, 0, 0, 0] mm_r133_2 = true := by decide +kernel
theorem mm_k134_0 : mm_okc (mm_I 134) mm_r134 0 [0, 0, 0, 0, 0, 4107, 0, 0, 0, 0, 4108, 0, 4107, 0, 0, 0, 0, 4107, 0, 0, 0, 0, 0, 4109, 0, 0, 0, 0, 0, 0, 0, 0] mm_r134_0 = true := by decide +kernel
theorem mm_k134_1 : mm_okc (mm_I 134) mm_r134 32 [5025, 0, 0, 0, 4109, 0, 0, 0, 0, 4110, 0, 0, 0, 0, 4110, 0, 0, 0, 0, 0, 0, 0, 0, 0] mm_r134_1 = true := by decide +kernel
theorem mm_k135_0 : mm_okc (mm_I 135) mm_r135 0 [0, 0, 0, 4111, 0, 0, 0, 0, 0, 4111, 0, 0, 0, 4112, 0, 0, 0, 0, 0, 4113, 0, 0, 0, 0, 0, 0, 0, 0, 0, 0, 0, 0] mm_r135_0 = true := by decide +kernel
theorem mm_k135_1 : mm_okc (mm_I 135) mm_r135 32 [0, 0, 5029, 0, 0, 0, 0, 0, 0, 0, 0, 0, 0, 0, 0, 0, 0, 0, 0, 4115, 0, 0, 0, 0, 0, 0, 0, 0, 0, 0, 0, 0] mm_r135_1 = true := by decide +kernel
theorem mm_k135_2 : mm_okc (mm_I 135) mm_r135 64 [0, 0, 0, 0, 0, 0, 0, 0, 0, 0, 0, 0, 0, 0, 0, 0, 0, 0, 0, 0, 4115, 0, 0, 0, 0, 4115, 0, 0, 0, 0, 0, 0] mm_r135_2 = true := by decide +kernel
theorem mm_k135_3 : mm_okc (mm_I 135) mm_r135 96 [0, 0, 0, 0, 0, 0, 4115, 0, 0, 0, 0, 0, 0, 0, 4115, 0, 0, 0, 0, 0, 0, 4115, 0, 0, 0, 0, 0, 0, 0, 0, 4115, 0] mm_r135_3 = true := by decide +kernel
theorem mm_k135_4 : mm_okc (mm_I 135) mm_r135 128 [0, 0, 0, 0, 0, 4115, 0, 0, 0, 0, 0, 0, 0, 0, 0, 0, 4115, 0, 0, 0] mm_r135_4 = true := by decide +kernel
theorem mm_k136_0 : mm_okc (mm_I 136) mm_r136 0 [0, 0, 0, 0, 0, 4094, 0, 0, 0, 0, 4095, 0, 0, 0, 0, 0, 0, 4092, 0, 0, 0, 0, 0, 0, 4099, 0, 0, 0] mm_r136_0 = true := by decide +kernel
theorem mm_k137_0 : mm_okc (mm_I 137) mm_r137 0 [0, 5010, 0, 0, 0, 0, 0, 0, 4092, 0, 0, 0, 0, 0, 5038, 0, 0, 0, 0, 5059, 0, 0, 0, 0, 5059, 0, 0, 0] mm_r137_0 = true := by decide +kernel
theorem mm_k138_0 : mm_okc (mm_I 138) mm_r138 0 [0, 0, 4130, 5042, 0, 0, 0, 0, 0, 0, 0, 0, 0, 0, 0, 0, 0, 5046, 0, 4092, 0, 0, 0, 0, 0, 0, 0, 0, 0, 4130, 5055, 0] mm_r138_0 = true := by decide +kernel
theorem mm_k138_1 : mm_okc (mm_I 138) mm_r138 32 [0] mm_r138_1 = true := by decide +kernel
theorem mm_k139_0 : mm_okc (mm_I 139) mm_r139 0 [0, 0, 0, 0, 0, 0, 0, 0, 4092, 0, 0, 0, 0, 0, 0, 0, 0, 0, 0, 0, 0, 0, 0, 0, 4094, 0, 0, 0, 0, 0, 0, 0] mm_r139_0 = true := by decide +kernel
theorem mm_k139_1 : mm_okc (mm_I 139) mm_r139 32 [0, 4095, 0, 0, 0, 0, 0, 0, 0, 0, 4096, 0, 0, 0, 0, 0, 0, 0, 0, 4097, 0, 0, 0, 0, 0, 0, 0, 0, 0, 0, 0, 0] mm_r139_1 = true := by decide +kernel
theorem mm_k139_2 : mm_okc (mm_I 139) mm_r139 64 [0, 0, 0, 4098, 0, 0, 0, 0, 0, 0, 0, 0, 0, 0, 0, 0, 0, 0, 0, 4117, 0, 0, 0, 0, 0, 0, 0, 0, 4118, 0, 0, 0] mm_r139_2 = true := by decide +kernel
theorem mm_k139_3 : mm_okc (mm_I 139) mm_r139 96 [0, 0, 0, 0, 0, 4119, 0, 0, 0, 0, 0, 0, 0, 0, 0, 0, 0, 0, 0, 0, 0, 4121, 0, 0, 0, 0, 0, 0, 0, 0, 4122, 0] mm_r139_3 = true := by decide +kernel
theorem mm_k139_4 : mm_okc (mm_I 139) mm_r139 128 [0, 0, 0, 0, 0, 0, 0, 0, 0, 0, 0, 0, 0, 0, 4124, 0, 0, 0, 0, 0, 0, 0, 0, 4125, 0, 0, 0, 0, 0, 0, 0, 0] mm_r139_4 = true := by decide +kernel
theorem mm_k139_5 : mm_okc (mm_I 139) mm_r139 160 [4093, 0, 0, 0, 0, 4099, 0, 0, 0, 0, 4116, 0, 0, 0, 0, 4120, 0, 0, 0, 0, 4123, 0, 0, 0, 0, 4107, 0, 0] mm_r139_5 = true := by decide +kernel
theorem mm_k140_0 : mm_okc (mm_I 140) mm_r140 0 [0, 5050, 0, 0, 0, 0, 0, 0, 0, 4131, 0, 0, 0, 0, 0, 0, 0, 0, 0, 4093, 0, 0, 4096, 0, 0, 0, 0, 0, 4131, 0, 4096, 0] mm_r140_0 = true := by decide +kernel
theorem mm_k140_1 : mm_okc (mm_I 140) mm_r140 32 [0, 0, 0, 0, 0, 0, 0, 4096, 0, 0, 0, 0, 0, 4096, 0, 0, 5013, 5017, 5054, 0, 0, 0, 0, 0, 0, 0, 0, 0, 0, 4092, 0, 0] mm_r140_1 = true := by decide +kernel
theorem mm_k140_2 : mm_okc (mm_I 140) mm_r140 64 [0, 0, 4092, 0, 0, 0, 0, 0, 4131, 0, 0, 0, 5033, 5054, 0, 0, 0, 0, 0, 0, 0, 4093, 0, 0, 4096, 0, 0, 0, 0, 0, 4097, 0] mm_r140_2 = true := by decide +kernel
theorem mm_k140_3 : mm_okc (mm_I 140) mm_r140 96 [0, 0, 0, 0, 0, 0, 0, 0, 0, 4099, 0, 0, 4099, 0] mm_r140_3 = true := by decide +kernel
theorem mm_k141_0 : mm_okc (mm_I 141) mm_r141 0 [0, 0, 0, 0, 0, 4107, 0, 0, 0, 0, 4108, 0, 4107, 0, 0, 0, 4109, 0, 0, 4107, 0, 0, 0, 0, 0, 0, 0, 4110, 0, 0, 4107, 0] mm_r141_0 = true := by decide +kernel
theorem mm_k141_1 : mm_okc (mm_I 141) mm_r141 32 [0, 0, 0, 0, 0, 0, 0, 0] mm_r141_1 = true := by decide +kernel
theorem mm_k142_0 : mm_okc (mm_I 142) mm_r142 0 [0, 0, 0, 0, 0, 0, 4092, 0, 0, 0, 0, 0, 0, 0, 0, 0, 0, 0, 0, 0, 4094, 0, 0, 0, 0, 0, 0, 0, 0, 4095, 0, 0] mm_r142_0 = true := by decide +kernel
theorem mm_k142_1 : mm_okc (mm_I 142) mm_r142 32 [0, 0, 0, 0, 0, 0, 4096, 0, 0, 0, 0, 0, 0, 0, 0, 4097, 0, 0, 0, 0, 0, 0, 0, 0, 0, 0, 0, 0, 0, 0, 0, 4098] mm_r142_1 = true := by decide +kernel
theorem mm_k142_2 : mm_okc (mm_I 142) mm_r142 64 [0, 0, 0, 0, 0, 0, 0, 0, 0, 0, 0, 0, 0, 0, 0, 4117, 0, 0, 0, 0, 0, 0, 0, 0, 4118, 0, 0, 0, 0, 0, 0, 0] mm_r142_2 = true := by decide +kernel
theorem mm_k142_3 : mm_okc (mm_I 142) mm_r142 96 [0, 4119, 0, 0, 0, 0, 0, 0, 0, 0, 0, 0, 0, 0, 0, 0, 0, 4121, 0, 0, 0, 0, 0, 0, 0, 0, 4122, 0, 0, 0, 0, 0] mm_r142_3 = true := by decide +kernel
theorem mm_k142_4 : mm_okc (mm_I 142) mm_r142 128 [0, 0, 0, 0, 0, 0, 0, 0, 0, 0, 4124, 0, 0, 0, 0, 0, 0, 0, 0, 4125, 0, 0, 0, 0, 0, 0, 0, 0, 0, 0, 0, 0] mm_r142_4 = true := by decide +kernel
theorem mm_k142_5 : mm_okc (mm_I 142) mm_r142 160 [0, 4093, 0, 0, 0, 0, 4099, 0, 0, 0, 0, 4116, 0, 0, 0, 0, 4120, 0, 0, 0, 0, 4123, 0, 0, 0, 0, 4107, 0] mm_r142_5 = true := by decide +kernel
theorem mm_k143_0 : mm_okc (mm_I 143) mm_r143 0 [0, 4092, 0, 0, 0, 0, 0, 0, 0, 0, 0, 0, 0, 0, 4092, 0, 0, 0, 0, 5063, 0, 0, 0, 0, 0, 0, 0, 0, 4092, 0, 0, 0] mm_r143_0 = true := by decide +kernel
theorem mm_k143_1 : mm_okc (mm_I 143) mm_r143 32 [0, 0, 0, 0, 0, 0] mm_r143_1 = true := by decide +kernel
theorem mm_k144_0 : mm_okc (mm_I 144) mm_r144 0 [0, 0, 0, 0, 0, 0, 4116, 0, 0, 0, 0, 0, 4130, 5042, 0, 0, 0, 0, 4118, 0, 0, 0, 0, 5046, 0, 0, 0, 4092, 0, 4117, 0, 0] mm_r144_0 = true := by decide +kernel
theorem mm_k144_1 : mm_okc (mm_I 144) mm_r144 32 [0, 0, 4119, 0, 0, 0, 0, 0, 0, 0, 0, 0, 4130, 5055, 0, 0, 0, 0] mm_r144_1 = true := by decide +kernel
theorem mm_k145_0 : mm_okc (mm_I 145) mm_r145 0 [0, 0, 5006, 0, 0, 0, 0, 0, 5010, 0, 0, 0, 0, 4096, 0, 0, 0, 0, 4096, 0, 0, 0, 0, 0, 0, 0, 0, 0, 0] mm_r145_0 = true := by decide +kernel
theorem mm_k146_0 : mm_okc (mm_I 146) mm_r146 0 [0, 5010, 0, 0, 0, 0, 5075, 0, 0, 0, 0, 4092, 0, 0, 0, 0, 4092, 0, 0, 0, 0, 0] mm_r146_0 = true := by decide +kernel
theorem mm_k147_0 : mm_okc (mm_I 147) mm_r147 0 [0, 0, 0, 4239, 0] mm_r147_0 = true := by decide +kernel
theorem mm_k148_0 : mm_okc (mm_I 148) mm_r148 0 [0, 0, 0, 4239, 0, 0, 0, 0, 0, 5082, 0, 5086, 0] mm_r148_0 = true := by decide +kernel
theorem mm_k149_0 : mm_okc (mm_I 149) mm_r149 0 [0, 0, 0, 0, 4093, 0, 0, 4096, 0, 0, 0, 0, 0, 4096, 0, 0, 4096, 0, 0, 0, 0, 0, 0, 0, 0, 0, 0] mm_r149_0 = true := by decide +kernel
theorem mm_k150_0 : mm_okc (mm_I 150) mm_r150 0 [0, 0, 0, 0, 0, 0, 4093, 0, 0, 4096, 0, 0, 0, 0, 0, 0, 0, 0, 0] mm_r150_0 = true := by decide +kernel
theorem mm_k151_0 : mm_okc (mm_I 151) mm_r151 0 [0, 5086, 0, 0, 0, 0, 0, 4093, 0, 0, 4096, 0, 0, 0, 0, 0, 0, 0] mm_r151_0 = true := by decide +kernel
theorem mm_k152_0 : mm_okc (mm_I 152) mm_r152 0 [0, 0, 5006, 0, 0, 0, 0, 4239, 0, 0, 0, 0, 0, 0, 4239, 0, 0, 0, 0, 4094, 0, 0, 0, 0, 0, 0, 0, 4098, 0, 0, 0, 0] mm_r152_0 = true := by decide +kernel
theorem mm_k152_1 : mm_okc (mm_I 152) mm_r152 32 [0, 0, 0, 0, 4098, 0, 0, 0, 0, 0, 0, 0, 0, 0] mm_r152_1 = true := by decide +kernel
theorem mm_k153_0 : mm_okc (mm_I 153) mm_r153 0 [0, 0, 0, 4239, 0, 0, 0, 0, 4100, 0, 0, 0, 0, 0, 4101, 0, 0, 4100, 0, 0, 0, 4100, 0, 0, 0, 4100, 0] mm_r153_0 = true := by decide +kernel
theorem mm_k154_0 : mm_okc (mm_I 154) mm_r154 0 [0, 4106, 0, 0, 0, 0, 0, 4114, 0, 0, 0, 4102, 0, 0, 0, 0, 0, 0, 0, 0, 0, 0, 0, 0, 0, 0, 0, 0, 4106, 0, 0, 0] mm_r154_0 = true := by decide +kernel
theorem mm_k154_1 : mm_okc (mm_I 154) mm_r154 32 [5106, 0, 0, 0, 0, 0, 0, 0, 0, 0, 0, 4102, 0, 4100, 0, 0, 0, 0, 0, 0, 0, 0, 0, 0, 0, 0, 5117, 0, 0, 0, 0, 0] mm_r154_1 = true := by decide +kernel
theorem mm_k154_2 : mm_okc (mm_I 154) mm_r154 64 [0, 0, 0, 4100, 0, 0, 0, 0, 4114, 0, 0, 4102, 0, 0, 0, 4108, 0, 4106, 0, 0, 0, 0, 4106, 4107, 0, 0, 4106, 0, 0, 0, 4106, 0] mm_r154_2 = true := by decide +kernel
theorem mm_k155_0 : mm_okc (mm_I 155) mm_r155 0 [0, 0, 0, 4102, 0, 4100, 0, 0, 4101, 0, 4102, 0, 0, 0, 0, 0, 0, 4101, 0, 4102, 0, 0, 0, 0, 0, 0, 4101, 0, 4102, 0, 0, 0] mm_r155_0 = true := by decide +kernel
theorem mm_k155_1 : mm_okc (mm_I 155) mm_r155 32 [0, 0, 0, 0, 0, 0, 0, 0, 5111, 0, 0, 0, 0, 0, 0, 5111, 0, 0, 0, 0, 0, 0, 5111, 0, 0, 0, 0, 0, 0, 0, 0, 5123] mm_r155_1 = true := by decide +kernel
theorem mm_k155_2 : mm_okc (mm_I 155) mm_r155 64 [0, 0, 0, 0, 4109, 0, 0, 0, 0, 4110, 0, 0, 4103, 0, 0, 4111, 0, 0, 4114, 0, 0, 0, 4105, 0, 0, 0, 0, 0, 5117, 0, 0, 5131] mm_r155_2 = true := by decide +kernel
theorem mm_k155_3 : mm_okc (mm_I 155) mm_r155 96 [0, 0, 0, 0, 4112, 0, 0, 4114, 0, 4111, 0, 0, 0, 0, 0, 0] mm_r155_3 = true := by decide +kernel
theorem mm_k156_0 : mm_okc (mm_I 156) mm_r156 0 [0, 0, 0, 0, 5115, 0, 0, 0, 0, 5116, 5117, 0, 0, 0, 0, 0, 0, 0] mm_r156_0 = true := by decide +kernel
theorem mm_k157_0 : mm_okc (mm_I 157) mm_r157 0 [0, 4102, 0, 4100, 0, 0, 4101, 0, 4102, 0, 0, 0, 0, 0, 0, 0, 4102, 0, 0, 4102, 0, 0] mm_r157_0 = true := by decide +kernel
theorem mm_k158_0 : mm_okc (mm_I 158) mm_r158 0 [0, 0, 4103, 0, 0, 4104, 0, 4104, 0, 0, 0, 5127, 0, 0, 0, 0, 4103, 0, 0, 4101, 0, 4102, 0, 0, 0, 0, 4103, 0, 0, 4102, 0, 0] mm_r158_0 = true := by decide +kernel
theorem mm_k158_1 : mm_okc (mm_I 158) mm_r158 32 [4102, 0, 0, 4104, 0, 0, 4104, 0, 0, 4104, 0, 0, 0, 0, 0] mm_r158_1 = true := by decide +kernel
theorem mm_k159_0 : mm_okc (mm_I 159) mm_r159 0 [0, 4102, 0, 4100, 0, 0, 4101, 0, 4102, 0, 0, 0, 0, 4101, 0, 4102, 0, 0, 0, 0, 0, 0, 0] mm_r159_0 = true := by decide +kernel
theorem mm_k160_0 : mm_okc (mm_I 160) mm_r160 0 [0, 5135, 0, 0, 0, 0, 0, 5117, 0, 0, 5135, 0, 0, 0, 5147, 0, 0, 0, 0, 0] mm_r160_0 = true := by decide +kernel
theorem mm_k161_0 : mm_okc (mm_I 161) mm_r161 0 [0, 5139, 0, 0, 0, 0, 0, 5117, 0, 0, 5139, 0, 0, 0, 5147, 0, 0, 0, 0, 0] mm_r161_0 = true := by decide +kernel
theorem mm_k162_0 : mm_okc (mm_I 162) mm_r162 0 [0, 0, 5143, 0, 0, 5139, 0, 0, 0, 5147, 0, 0, 0, 0, 0, 0, 0, 0, 5143, 0, 0, 5131, 0, 0, 0, 5117, 0, 0, 0, 0, 0, 0] mm_r162_0 = true := by decide +kernel
theorem mm_k162_1 : mm_okc (mm_I 162) mm_r162 32 [0, 5151, 0, 0, 0, 4105, 0, 0, 4105, 0, 0] mm_r162_1 = true := by decide +kernel
theorem mm_k163_0 : mm_okc (mm_I 163) mm_r163 0 [0, 4105, 0, 0, 0, 0, 5117, 0, 0, 0, 0, 0, 4105, 0, 0, 4105, 0, 0] mm_r163_0 = true := by decide +kernel
theorem mm_k164_0 : mm_okc (mm_I 164) mm_r164 0 [0, 4113, 0, 0, 4114, 0, 0, 0, 4114, 0, 0, 0, 0] mm_r164_0 = true := by decide +kernel
theorem mm_k165_0 : mm_okc (mm_I 165) mm_r165 0 [0, 4102, 0, 4100, 0, 0, 4101, 0, 4102, 0, 0, 0, 0, 4101, 0, 4102, 0, 5156, 0, 0, 0, 0, 0, 0, 0, 0, 0, 4102, 0, 0, 4102, 0] mm_r165_0 = true := by decide +kernel
theorem mm_k165_1 : mm_okc (mm_I 165) mm_r165 32 [4102, 0, 4100, 0, 0, 4101, 0, 4102, 0, 0, 0, 0, 4101, 0, 4102, 0, 5156, 0, 0, 0, 0, 0, 0, 0, 0, 0, 4102, 0, 0, 4102, 0, 5123] mm_r165_1 = true := by decide +kernel
theorem mm_k165_2 : mm_okc (mm_I 165) mm_r165 64 [0, 0, 0, 0, 0, 0, 0, 0, 0, 0, 0, 0, 4103, 0, 5147, 0, 0, 0, 0, 0] mm_r165_2 = true := by decide +kernel
theorem mm_k166_0 : mm_okc (mm_I 166) mm_r166 0 [0, 0, 0, 0, 5006, 0, 0, 5162, 0, 4134, 0, 0, 0, 0, 0, 0, 0, 0, 4099, 0, 0, 5050, 0, 0, 5170, 0, 0, 5174, 0, 0, 5162, 0] mm_r166_0 = true := by decide +kernel
theorem mm_k166_1 : mm_okc (mm_I 166) mm_r166 32 [4135, 0, 0, 0] mm_r166_1 = true := by decide +kernel
theorem mm_k167_0 : mm_okc (mm_I 167) mm_r167 0 [0, 0, 0, 0, 4093, 0, 0, 0, 0, 0, 0, 0, 4132, 0, 0, 0, 0, 0, 0, 0, 0, 0, 0, 0, 5017, 5033, 5054, 0, 0, 0, 0, 0] mm_r167_0 = true := by decide +kernel
theorem mm_k167_1 : mm_okc (mm_I 167) mm_r167 32 [0, 0, 4135, 0, 0, 0, 0, 5166, 0] mm_r167_1 = true := by decide +kernel
theorem mm_k168_0 : mm_okc (mm_I 168) mm_r168 0 [0, 0, 4093, 0, 0, 0, 4135, 0, 0, 0, 0, 4135, 0, 0, 0, 0, 0, 0, 4134, 0, 0, 4133, 0, 0, 0, 0, 0, 0, 0, 0, 0, 0] mm_r168_0 = true := by decide +kernel
theorem mm_k168_1 : mm_okc (mm_I 168) mm_r168 32 [0, 0, 0, 0, 0, 0, 0, 0, 0, 0, 4133, 0, 0, 0, 0, 0, 0, 0, 0, 0, 0, 0, 0, 0, 0, 4132, 0, 0, 0, 0, 0, 0] mm_r168_1 = true := by decide +kernel
theorem mm_k168_2 : mm_okc (mm_I 168) mm_r168 64 [0, 5166, 0, 0, 0] mm_r168_2 = true := by decide +kernel
theorem mm_k169_0 : mm_okc (mm_I 169) mm_r169 0 [0, 0, 0, 0, 0, 0, 0, 0, 0, 4092, 0, 0, 0, 0, 0, 0, 0, 0] mm_r169_0 = true := by decide +kernel
theorem mm_k170_0 : mm_okc (mm_I 170) mm_r170 0 [0, 0, 0, 0, 0, 0, 0, 0, 4092, 0, 0, 0, 0, 0, 0, 0, 0] mm_r170_0 = true := by decide +kernel
theorem mm_k171_0 : mm_okc (mm_I 171) mm_r171 0 [0, 0, 0, 4239, 0, 0, 0, 0, 4099, 0, 0, 0, 0, 0, 0, 0, 0, 0, 0, 0, 0, 5046, 0, 0, 0, 0, 4093, 0, 0, 4097, 0, 0] mm_r171_0 = true := by decide +kernel
theorem mm_k171_1 : mm_okc (mm_I 171) mm_r171 32 [0, 4097, 0, 0, 5033, 0, 0, 0, 0, 0, 0, 4099, 0] mm_r171_1 = true := by decide +kernel
theorem mm_k172_0 : mm_okc (mm_I 172) mm_r172 0 [0, 0, 0, 4239, 0, 0, 0, 0, 5010, 0, 0, 0, 0, 0, 0, 4239, 0, 0, 0, 0, 0, 4130, 5042, 0, 0, 0, 0, 0, 0, 5046, 0, 0] mm_r172_0 = true := by decide +kernel
theorem mm_k172_1 : mm_okc (mm_I 172) mm_r172 32 [0, 0, 0, 5170, 0, 0, 0, 0, 0, 5174, 0, 0, 4092, 0, 0, 0, 0, 0, 0, 0, 4130, 5055, 0, 0] mm_r172_1 = true := by decide +kernel
theorem mm_k173_0 : mm_okc (mm_I 173) mm_r173 0 [0, 5010, 0, 0, 0, 0, 0, 0, 4239, 0, 0, 0, 0, 0, 0, 0, 0, 0, 0, 4093, 0, 0, 0, 0, 0, 0, 5190, 0, 5190, 0, 0, 0] mm_r173_0 = true := by decide +kernel
theorem mm_k173_1 : mm_okc (mm_I 173) mm_r173 32 [0, 4130, 5042, 0, 0, 0, 0, 4093, 0, 0, 4096, 0, 0, 0, 0, 0, 0, 0, 0, 0, 0, 0, 0, 0, 0, 0, 0, 0, 0, 0, 0, 5046] mm_r173_1 = true := by decide +kernel
theorem mm_k173_2 : mm_okc (mm_I 173) mm_r173 64 [0, 0, 0, 4092, 0, 0, 0, 0, 0, 0, 0, 4130, 5055, 0, 0, 0, 0] mm_r173_2 = true := by decide +kernel
theorem mm_k174_0 : mm_okc (mm_I 174) mm_r174 0 [0, 0, 0, 4239, 0, 0, 0, 0, 0, 5195, 0, 0, 0, 0, 0, 0, 0, 0, 4130, 5042, 0, 0, 5082, 0, 0, 0, 0, 0, 0, 5046, 0, 0] mm_r174_0 = true := by decide +kernel
theorem mm_k174_1 : mm_okc (mm_I 174) mm_r174 32 [0, 5170, 0, 0, 0, 4130, 5055, 0, 0, 0, 0, 0, 0, 0, 0, 0, 0, 0, 0] mm_r174_1 = true := by decide +kernel
theorem mm_k175_0 : mm_okc (mm_I 175) mm_r175 0 [0, 0, 0, 0, 0, 4116, 0, 0, 0, 5010, 0, 0, 0, 0, 0, 0, 4239, 0, 0, 5075, 0, 0, 0, 0, 4116, 0, 0, 0, 0, 0, 4117, 0] mm_r175_0 = true := by decide +kernel
theorem mm_k175_1 : mm_okc (mm_I 175) mm_r175 32 [4116, 0, 0, 0, 4118, 0, 4116, 0, 0, 0, 4119, 0, 0, 4116, 0, 0, 0, 4116, 0, 0, 0, 4116, 0] mm_r175_1 = true := by decide +kernel
theorem mm_k176_0 : mm_okc (mm_I 176) mm_r176 0 [0, 0, 5006, 0, 0, 0, 0, 4239, 0, 0, 0, 0, 4095, 0, 0, 0, 0, 0, 0, 0, 0, 0, 0, 0, 0, 4095, 0, 0, 0, 0, 5063, 0] mm_r176_0 = true := by decide +kernel
theorem mm_k176_1 : mm_okc (mm_I 176) mm_r176 32 [0, 0, 0, 0, 0, 0, 0, 4095, 0, 0, 0, 0, 0, 0, 0, 0, 0] mm_r176_1 = true := by decide +kernel
theorem mm_k177_0 : mm_okc (mm_I 177) mm_r177 0 [0, 0, 5006, 0, 0, 5010, 0, 0, 0, 0, 4239, 0, 0, 0, 0, 4239, 0, 5208, 0, 0, 0, 0, 0, 0, 0, 0, 0, 0, 4130, 5042, 0, 4096] mm_r177_0 = true := by decide +kernel
theorem mm_k177_1 : mm_okc (mm_I 177) mm_r177 32 [0, 0, 0, 0, 0, 0, 0, 0, 0, 5046, 0, 0, 0, 4092, 0, 0, 0, 0, 0, 0, 4130, 5055, 0, 0, 0, 0, 5209, 0, 5210, 0] mm_r177_1 = true := by decide +kernel
theorem mm_k178_0 : mm_okc (mm_I 178) mm_r178 0 [0, 5213, 0, 0, 0, 0, 0, 0, 0, 0, 0, 0, 0, 0, 0, 0, 0, 0, 0, 0, 0, 0, 0, 0, 0, 0] mm_r178_0 = true := by decide +kernel
theorem mm_k179_0 : mm_okc (mm_I 179) mm_r179 0 [0, 0, 0, 4239, 0, 0, 0, 0, 4239, 0, 0, 0, 0, 5220, 0, 5209, 0, 5210, 0, 5208, 0] mm_r179_0 = true := by decide +kernel
theorem mm_k180_0 : mm_okc (mm_I 180) mm_r180 0 [0, 0, 0, 0, 0, 4120, 0, 0, 0, 0, 0, 4239, 0, 0, 0, 0, 0, 0, 5006, 0, 0, 0, 0, 0, 5010, 0, 0, 0, 0, 0, 0, 0] mm_r180_0 = true := by decide +kernel
theorem mm_k180_1 : mm_okc (mm_I 180) mm_r180 32 [0, 0, 4239, 0, 0, 0, 0, 4120, 0, 0, 0, 0, 0, 4121, 0, 4120, 0, 0, 0, 4122, 0, 0, 4120, 0, 0, 0, 4120, 0, 0, 0, 0, 0] mm_r180_1 = true := by decide +kernel
theorem mm_k180_2 : mm_okc (mm_I 180) mm_r180 64 [0, 0, 4120, 0] mm_r180_2 = true := by decide +kernel
theorem mm_k181_0 : mm_okc (mm_I 181) mm_r181 0 [0, 0, 0, 4239, 0, 0, 0, 0, 0, 4130, 5042, 0, 0, 0, 0, 4120, 0, 0, 4122, 0, 0, 0, 0, 4121, 0, 0, 0, 0, 5046, 0, 0, 4121] mm_r181_0 = true := by decide +kernel
theorem mm_k181_1 : mm_okc (mm_I 181) mm_r181 32 [0, 0, 0, 0, 0, 4096, 0, 0, 0, 0, 0, 4121, 0, 0, 0, 0, 0, 0, 5082, 0, 0, 4092, 0, 0, 0, 0, 0, 0, 0, 0, 5170, 0] mm_r181_1 = true := by decide +kernel
theorem mm_k181_2 : mm_okc (mm_I 181) mm_r181 64 [0, 5229, 0, 0, 0, 4130, 5055, 0, 0] mm_r181_2 = true := by decide +kernel
theorem mm_k182_0 : mm_okc (mm_I 182) mm_r182 0 [0, 0, 0, 0, 0, 0, 4093, 0, 0, 0, 4097, 0, 0, 0, 0, 0, 0, 0, 0] mm_r182_0 = true := by decide +kernel
theorem mm_k183_0 : mm_okc (mm_I 183) mm_r183 0 [0, 0, 0, 0, 0, 4123, 0, 0, 0, 5010, 0, 0, 0, 0, 5075, 0, 0, 0, 0, 4123, 0, 0, 0, 0, 0, 4124, 0, 4123, 0, 0, 0, 4125] mm_r183_0 = true := by decide +kernel
theorem mm_k183_1 : mm_okc (mm_I 183) mm_r183 32 [0, 0, 4123, 0, 0, 0, 4123, 0, 0, 0, 4123, 0] mm_r183_1 = true := by decide +kernel
theorem mm_k184_0 : mm_okc (mm_I 184) mm_r184 0 [0, 0, 0, 0, 4123, 0, 0, 4092, 0, 4124, 0, 0, 0, 0, 4125, 0, 0, 0, 0, 0, 0, 0, 0, 0] mm_r184_0 = true := by decide +kernel
theorem mm_k185_0 : mm_okc (mm_I 185) mm_r185 0 [0, 0, 0, 4239, 0, 0, 0, 0, 4136, 0, 0, 0, 0, 0, 4136, 0, 0, 0, 0, 0, 0, 0, 0, 0, 0, 0, 4136, 0, 0, 0, 0, 0] mm_r185_0 = true := by decide +kernel
theorem mm_k185_1 : mm_okc (mm_I 185) mm_r185 32 [0, 0, 0, 0, 0, 0, 0, 4137, 0, 0, 0, 0, 0, 0, 0, 0, 0, 0, 4138, 0, 0, 0, 0, 0, 0, 0, 0, 0, 4092, 0, 0, 0] mm_r185_1 = true := by decide +kernel
theorem mm_k185_2 : mm_okc (mm_I 185) mm_r185 64 [0, 0, 0, 0, 0, 0, 0, 0] mm_r185_2 = true := by decide +kernel
theorem mm_k186_0 : mm_okc (mm_I 186) mm_r186 0 [0, 0, 4128, 0, 0, 4129, 5042, 0, 4093, 0] mm_r186_0 = true := by decide +kernel
theorem mm_k187_0 : mm_okc (mm_I 187) mm_r187 0 [0, 4128, 0, 0, 0, 0, 0, 4129, 5055, 0, 4093, 0] mm_r187_0 = true := by decide +kernel
theorem mm_k188_0 : mm_okc (mm_I 188) mm_r188 0 [0, 0, 4126, 0, 0, 5006, 0, 0, 0, 0, 4239, 0, 0, 0, 0, 4094, 0, 0, 0, 0, 0, 0, 0, 0, 0, 6017, 0, 0, 0, 0, 0, 0] mm_r188_0 = true := by decide +kernel
theorem mm_k188_1 : mm_okc (mm_I 188) mm_r188 32 [0, 0, 6028, 0, 0, 0, 0, 0, 6032, 0] mm_r188_1 = true := by decide +kernel
theorem mm_k189_0 : mm_okc (mm_I 189) mm_r189 0 [0, 0, 0, 0, 6021, 0, 0, 0, 0, 0, 0, 6017, 0, 0, 0, 6021, 0, 0, 0, 0, 6017, 0, 0, 0, 0, 6021, 0, 0, 0, 0, 6017, 0] mm_r189_0 = true := by decide +kernel
theorem mm_k189_1 : mm_okc (mm_I 189) mm_r189 32 [4095, 0, 0, 0, 0, 0, 0, 6021, 0, 0, 0, 0, 0, 0, 0, 6025, 0, 6017, 0] mm_r189_1 = true := by decide +kernel
theorem mm_k190_0 : mm_okc (mm_I 190) mm_r190 0 [0, 4126, 0, 0, 0, 4127, 0, 4126, 0, 0, 0, 0, 4126, 0, 0, 4126, 0] mm_r190_0 = true := by decide +kernel
theorem mm_k191_0 : mm_okc (mm_I 191) mm_r191 0 [0, 0, 0, 0, 0, 0, 0, 0, 0, 0, 0, 0, 0, 0, 0, 0, 0] mm_r191_0 = true := by decide +kernel
theorem mm_k192_0 : mm_okc (mm_I 192) mm_r192 0 [0, 0, 0, 0, 6021, 0, 0, 0, 0, 6028, 0, 0, 0, 0, 0, 6021, 0, 0, 0, 0, 0, 0, 6028, 0, 0, 0, 6021, 0, 0, 0, 0, 6028] mm_r192_0 = true := by decide +kernel
theorem mm_k192_1 : mm_okc (mm_I 192) mm_r192 32 [0, 0, 0, 0, 0, 0, 6017, 0, 0, 0, 0, 6021, 0, 0, 0, 4094, 0, 0, 0, 6017, 0, 4095, 0, 0, 0, 0, 0, 0, 0, 6025, 0, 6028] mm_r192_1 = true := by decide +kernel
theorem mm_k192_2 : mm_okc (mm_I 192) mm_r192 64 [0] mm_r192_2 = true := by decide +kernel
theorem mm_k193_0 : mm_okc (mm_I 193) mm_r193 0 [0, 0, 0, 0, 6021, 0, 0, 0, 0, 6032, 0, 0, 0, 0, 0, 4094, 0, 0, 0, 6028, 0, 0, 0, 0, 6021, 0, 0, 0, 0, 0, 0, 6032] mm_r193_0 = true := by decide +kernel
theorem mm_k193_1 : mm_okc (mm_I 193) mm_r193 32 [0, 0, 0, 6021, 0, 0, 0, 4094, 0, 0, 0, 6028, 0, 0, 0, 0, 0, 0, 6025, 0, 6032, 0] mm_r193_1 = true := by decide +kernel
theorem mm_k194_0 : mm_okc (mm_I 194) mm_r194 0 [0, 0, 0, 0, 4126, 5033, 0, 0, 4239, 0, 0, 4127, 0, 0, 0, 0, 0] mm_r194_0 = true := by decide +kernel
theorem mm_k195_0 : mm_okc (mm_I 195) mm_r195 0 [0, 0, 0, 4239, 0, 0, 0, 0, 0, 5006, 0, 0, 0, 0, 4094, 0, 0, 0, 0, 0, 0, 0, 0, 0, 6025, 0, 0, 0, 0, 0, 0, 4094] mm_r195_0 = true := by decide +kernel
theorem mm_k195_1 : mm_okc (mm_I 195) mm_r195 32 [0, 0, 0, 0, 0] mm_r195_1 = true := by decide +kernel
theorem mm_k196_0 : mm_okc (mm_I 196) mm_r196 0 [0, 0, 0, 4093, 0, 0, 4106, 0, 0, 4116, 0, 0, 4120, 0, 0, 4123, 0, 0, 4100, 0, 0, 4126, 0, 0, 0] mm_r196_0 = true := by decide +kernel
theorem mm_k197_0 : mm_okc (mm_I 197) mm_r197 0 [0, 6052, 0, 0, 0, 0, 0, 0, 4239, 0, 0, 0, 0, 0, 0, 0, 0, 0, 0, 0, 0, 0, 0, 0, 4136, 0, 0, 0, 0, 4137, 0, 0] mm_r197_0 = true := by decide +kernel
theorem mm_k197_1 : mm_okc (mm_I 197) mm_r197 32 [0, 0, 0, 0, 0, 0, 0, 0, 0, 0, 0, 4138, 0, 0, 0, 0, 0, 0, 0, 0, 0, 0, 0] mm_r197_1 = true := by decide +kernel
theorem mm_k198_0 : mm_okc (mm_I 198) mm_r198 0 [0, 0, 0, 4239, 0] mm_r198_0 = true := by decide +kernel
theorem mm_k199_0 : mm_okc (mm_I 199) mm_r199 0 [0, 6052, 0, 0, 0, 0, 4136, 0, 0, 0, 0, 0, 0, 0, 0, 4137, 0, 0, 0, 0, 4239, 0, 0, 0, 0, 4138, 0, 0, 0, 0, 0, 0] mm_r199_0 = true := by decide +kernel
theorem mm_k199_1 : mm_okc (mm_I 199) mm_r199 32 [4136, 0, 0, 0, 6059, 0, 0, 0] mm_r199_1 = true := by decide +kernel
theorem mm_k200_0 : mm_okc (mm_I 200) mm_r200 0 [0, 0, 0, 0, 0, 0, 0, 0, 0, 0, 0, 0, 0, 0, 0, 0, 0, 0, 0, 0, 0, 0, 0, 0, 0, 0] mm_r200_0 = true := by decide +kernel
theorem mm_k201_0 : mm_okc (mm_I 201) mm_r201 0 [0, 6052, 0, 0, 4136, 0, 0, 0, 0, 0, 0, 4137, 0, 0, 0, 0, 4239, 0, 0, 4138, 0, 0, 0, 0, 0, 0, 0, 5208, 0] mm_r201_0 = true := by decide +kernel
theorem mm_k202_0 : mm_okc (mm_I 202) mm_r202 0 [0, 6052, 0, 0, 6052, 0, 0, 0, 0, 4136, 0, 0, 0, 0, 4136, 0, 0, 0, 0, 0, 0, 4136, 0, 0, 0, 4136, 0, 0, 0, 0, 0, 0] mm_r202_0 = true := by decide +kernel
theorem mm_k202_1 : mm_okc (mm_I 202) mm_r202 32 [0, 0, 0, 0, 0, 0, 0, 0, 0, 0, 0, 4137, 0, 0, 0, 0, 0, 0, 0, 0, 0, 0, 0, 4137, 0, 0, 0, 0, 0, 0, 0, 0] mm_r202_1 = true := by decide +kernel
theorem mm_k202_2 : mm_okc (mm_I 202) mm_r202 64 [0, 0, 0, 0, 0, 0, 0, 0, 0, 0, 0, 0, 4138, 0, 0, 0, 0, 0, 0, 0, 0, 4138, 0, 0, 0, 0, 0, 0, 0, 0, 0, 0] mm_r202_2 = true := by decide +kernel
theorem mm_k202_3 : mm_okc (mm_I 202) mm_r202 96 [0, 0, 0, 0, 0, 0, 0, 0, 4138, 0, 0, 0, 0, 0, 0, 0, 0, 4138, 0, 0, 0, 0, 0, 0, 0, 0, 0, 0, 0, 0, 0] mm_r202_3 = true := by decide +kernel
theorem mm_k203_0 : mm_okc (mm_I 203) mm_r203 0 [1020, 0, 1022, 0, 4086, 0, 4088, 0, 0, 0, 0, 0, 0, 0, 0, 0, 0, 0, 0, 0, 0, 0, 0, 0, 0, 0, 0, 0, 0, 0, 0, 0] mm_r203_0 = true := by decide +kernel
theorem mm_k203_1 : mm_okc (mm_I 203) mm_r203 32 [0, 2033, 0, 0, 0, 0, 0, 0, 0, 0, 0, 0, 0, 4235, 0, 0, 0, 0, 0, 0, 0, 0, 0, 0, 0, 0, 0, 0, 2044, 0, 0, 0] mm_r203_1 = true := by decide +kernel
theorem mm_k203_2 : mm_okc (mm_I 203) mm_r203 64 [0, 0, 0, 0, 0, 0, 0, 0, 5002, 0, 0, 0, 0, 0, 0, 0, 0, 0, 0, 0, 0, 0, 0, 2081, 0, 0, 0, 0, 0, 0, 0, 0] mm_r203_2 = true := by decide +kernel
theorem mm_k203_3 : mm_okc (mm_I 203) mm_r203 96 [0, 0, 0, 5034, 0, 0, 0, 0, 0, 0, 0, 0, 0, 0, 0, 0, 0, 0, 2127, 0, 0, 0, 0, 0, 0, 0, 0, 0, 0, 0, 5067, 0] mm_r203_3 = true := by decide +kernel
theorem mm_k203_4 : mm_okc (mm_I 203) mm_r203 128 [0, 0, 0, 0, 0, 0, 0, 0, 0, 0, 0, 0, 0, 2131, 0, 0, 0, 0, 0, 0, 0, 0, 0, 0, 0, 5071, 0, 0, 0, 0, 0, 0] mm_r203_4 = true := by decide +kernel
theorem mm_k203_5 : mm_okc (mm_I 203) mm_r203 160 [0, 0, 0, 2135, 0, 0, 0, 0, 0, 0, 5078, 0, 0, 0, 0, 2147, 0, 5090, 0, 0, 0, 0, 0, 0, 0, 0, 0, 0, 0, 0, 0, 0] mm_r203_5 = true := by decide +kernel
theorem mm_k203_6 : mm_okc (mm_I 203) mm_r203 192 [0, 0, 0, 0, 0, 2152, 0, 0, 0, 0, 0, 0, 0, 0, 0, 0, 0, 0, 0, 0, 0, 0, 5094, 0, 0, 0, 0, 0, 0, 0, 0, 0] mm_r203_6 = true := by decide +kernel
theorem mm_k203_7 : mm_okc (mm_I 203) mm_r203 224 [2156, 0, 0, 0, 0, 0, 0, 5098, 0, 0, 0, 0, 2164, 0, 5102, 0, 0, 0, 0, 0, 0, 0, 0, 0, 3097, 0, 0, 0, 0, 0, 0, 5158] mm_r203_7 = true := by decide +kernel
theorem mm_k203_8 : mm_okc (mm_I 203) mm_r203 256 [0, 0, 0, 0, 0, 0, 0, 0, 0, 3147, 0, 0, 0, 0, 0, 0, 5178, 0, 0, 0, 0, 0, 0, 0, 0, 0, 0, 0, 0, 0, 0, 3155] mm_r203_8 = true := by decide +kernel
theorem mm_k203_9 : mm_okc (mm_I 203) mm_r203 288 [0, 0, 0, 0, 0, 0, 0, 0, 0, 0, 0, 5182, 0, 0, 0, 0, 0, 0, 0, 0, 0, 0, 0, 0, 0, 0, 3160, 0, 0, 0, 0, 0] mm_r203_9 = true := by decide +kernel
theorem mm_k203_10 : mm_okc (mm_I 203) mm_r203 320 [0, 0, 0, 0, 0, 0, 5186, 0, 0, 0, 0, 0, 0, 0, 0, 0, 3169, 0, 0, 0, 0, 0, 0, 5191, 0, 0, 0, 0, 0, 0, 0, 0] mm_r203_10 = true := by decide +kernel
theorem mm_k203_11 : mm_okc (mm_I 203) mm_r203 352 [0, 0, 0, 0, 0, 0, 0, 0, 0, 0, 0, 3173, 0, 0, 0, 0, 0, 0, 0, 0, 0, 0, 0, 0, 0, 0, 0, 0, 5196, 0, 0, 0] mm_r203_11 = true := by decide +kernel
theorem mm_k203_12 : mm_okc (mm_I 203) mm_r203 384 [0, 0, 0, 0, 0, 0, 0, 0, 0, 0, 0, 3185, 0, 0, 0, 0, 0, 0, 0, 0, 0, 0, 0, 5200, 0, 0, 0, 0, 0, 0, 0, 0] mm_r203_12 = true := by decide +kernel
theorem mm_k203_13 : mm_okc (mm_I 203) mm_r203 416 [0, 0, 0, 0, 0, 0, 0, 0, 0, 0, 0, 0, 0, 0, 0, 0, 3189, 0, 0, 0, 0, 0, 0, 0, 0, 0, 0, 0, 0, 0, 0, 0] mm_r203_13 = true := by decide +kernel
theorem mm_k203_14 : mm_okc (mm_I 203) mm_r203 448 [0, 0, 0, 0, 0, 0, 5204, 0, 0, 0, 0, 0, 0, 0, 0, 0, 0, 0, 0, 0, 0, 0, 3197, 0, 0, 0, 0, 0, 0, 0, 0, 0] mm_r203_14 = true := by decide +kernel
theorem mm_k203_15 : mm_okc (mm_I 203) mm_r203 480 [0, 0, 5216, 0, 0, 0, 0, 0, 0, 0, 0, 0, 0, 0, 0, 0, 0, 0, 3201, 0, 0, 0, 0, 0, 0, 0, 0, 0, 0, 0, 5221, 0] mm_r203_15 = true := by decide +kernel
theorem mm_k203_16 : mm_okc (mm_I 203) mm_r203 512 [0, 0, 0, 0, 0, 0, 0, 0, 3205, 0, 0, 0, 0, 0, 0, 5225, 0, 0, 0, 0, 0, 0, 0, 0, 0, 0, 0, 0, 0, 0, 3219, 0] mm_r203_16 = true := by decide +kernel
theorem mm_k203_17 : mm_okc (mm_I 203) mm_r203 544 [0, 0, 0, 0, 0, 0, 0, 0, 0, 0, 5233, 0, 0, 0, 0, 3223, 0, 5237, 0, 0, 0, 0, 0, 0, 0, 0, 0, 0, 0, 0, 0, 0] mm_r203_17 = true := by decide +kernel
theorem mm_k203_18 : mm_okc (mm_I 203) mm_r203 576 [3227, 0, 0, 0, 0, 0, 0, 0, 0, 0, 0, 0, 6001, 0, 0, 0, 0, 3234, 0, 6005, 0, 0, 0, 0, 4008, 0, 6009, 0, 0, 0, 0, 0] mm_r203_18 = true := by decide +kernel
theorem mm_k203_19 : mm_okc (mm_I 203) mm_r203 608 [0, 0, 0, 0, 0, 0, 0, 0, 0, 0, 0, 0, 0, 0, 4012, 0, 0, 0, 0, 0, 0, 0, 0, 0, 0, 0, 0, 0, 0, 0, 0, 6013] mm_r203_19 = true := by decide +kernel
theorem mm_k203_20 : mm_okc (mm_I 203) mm_r203 640 [0, 0, 0, 0, 0, 0, 0, 0, 0, 4036, 0, 0, 0, 0, 0, 0, 6036, 0, 0, 0, 0, 0, 0, 0, 0, 0, 0, 0, 0, 0, 0, 4045] mm_r203_20 = true := by decide +kernel
theorem mm_k203_21 : mm_okc (mm_I 203) mm_r203 672 [0, 0, 0, 0, 0, 0, 0, 0, 0, 0, 0, 6040, 0, 0, 0, 0, 0, 0, 0, 0, 0, 4050, 0, 0, 0, 0, 0, 0, 6044, 0, 0, 0] mm_r203_21 = true := by decide +kernel
theorem mm_k203_22 : mm_okc (mm_I 203) mm_r203 704 [0, 0, 0, 0, 0, 0, 0, 0, 0, 0, 0, 0, 0, 0, 0, 0, 4054, 0, 0, 0, 0, 0, 0, 0, 0, 0, 0, 0, 0, 0, 0, 0] mm_r203_22 = true := by decide +kernel
theorem mm_k203_23 : mm_okc (mm_I 203) mm_r203 736 [0, 6048, 0, 0, 0, 0, 0, 0, 0, 0, 0, 0, 0, 0, 0, 0, 0, 0, 0, 0, 0, 0, 0, 0, 0, 0, 0, 0, 0, 0, 6070, 0] mm_r203_23 = true := by decide +kernel
theorem mm_k203_24 : mm_okc (mm_I 203) mm_r203 768 [0, 4065, 0, 0, 0, 0, 0, 0, 0, 0, 0, 0, 0, 0, 0, 0, 0, 0, 0, 0, 0, 0, 0, 0, 0, 0, 0, 6070, 0, 0, 6055, 0] mm_r203_24 = true := by decide +kernel
theorem mm_k203_25 : mm_okc (mm_I 203) mm_r203 800 [0, 0, 0, 0, 0, 0, 0, 0, 0, 0, 0, 0, 0, 4073, 0, 0, 0, 0, 0, 0, 0, 0, 0, 0, 0, 6062, 0, 0, 0, 0, 0, 0] mm_r203_25 = true := by decide +kernel
theorem mm_k203_26 : mm_okc (mm_I 203) mm_r203 832 [0, 0, 0, 0, 0, 0, 0, 0, 0, 0, 0, 0, 0, 0, 0, 0, 0, 0, 0, 0, 0, 0, 0, 0, 4077, 0, 0, 0, 0, 0, 0, 0] mm_r203_26 = true := by decide +kernel
theorem mm_k203_27 : mm_okc (mm_I 203) mm_r203 864 [0, 0, 0, 0, 0, 0, 0, 0, 0, 0, 0, 0, 0, 0, 0, 0, 0, 0, 0, 6066, 0, 0, 0, 0, 0, 0, 0] mm_r203_27 = true := by decide +kernel
theorem mm_m0 : mm_okm 0 1042 1004 1041 0 = true := by decide +kernel
theorem mm_m1 : mm_okm 1 4064 1004 4063 0 = true := by decide +kernel
theorem mm_m5 : mm_okm 5 3127 1019 3126 0 = true := by decide +kernel
theorem mm_m6 : mm_okm 6 2196 1014 2194 2195 = true := by decide +kernel
theorem mm_m7 : mm_okm 7 2200 1014 2198 2199 = true := by decide +kernel
theorem mm_m8 : mm_okm 8 2206 1014 2204 2205 = true := by decide +kernel
theorem mm_m9 : mm_okm 9 2210 1014 2208 2209 = true := by decide +kernel
theorem mm_m10 : mm_okm 10 2216 1014 2215 0 = true := by decide +kernel
theorem mm_m11 : mm_okm 11 3031 1014 3029 3030 = true := by decide +kernel
theorem mm_m12 : mm_okm 12 3035 1014 3033 3034 = true := by decide +kernel
theorem mm_m13 : mm_okm 13 2213 1015 2212 0 = true := by decide +kernel
theorem mm_m14 : mm_okm 14 3039 1015 3038 0 = true := by decide +kernel
theorem mm_m15 : mm_okm 15 3042 1015 3041 0 = true := by decide +kernel
theorem mm_m16 : mm_okm 16 3047 1015 3046 0 = true := by decide +kernel
