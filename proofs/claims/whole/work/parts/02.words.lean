theorem q74 : Cond.initialized RL ∈ TB := tb_at 74 (by decide +kernel) rfl
theorem q75 : Cond.initialized RX4 ∈ TB := tb_at 75 (by decide +kernel) rfl
theorem q76 : Cond.initialized RX2 ∈ TB := tb_at 76 (by decide +kernel) rfl
theorem q77 : Cond.initialized RX1 ∈ TB := tb_at 77 (by decide +kernel) rfl
theorem q78 : Cond.initialized RX0 ∈ TB := tb_at 78 (by decide +kernel) rfl
theorem q79 : Cond.initialized RJ9 ∈ TB := tb_at 79 (by decide +kernel) rfl
theorem q80 : Cond.initialized RJ10 ∈ TB := tb_at 80 (by decide +kernel) rfl
theorem q81 : Cond.initialized RX3 ∈ TB := tb_at 81 (by decide +kernel) rfl
theorem q82 : Cond.initialized RX5 ∈ TB := tb_at 82 (by decide +kernel) rfl
theorem q83 : Cond.initialized RJ6 ∈ TB := tb_at 83 (by decide +kernel) rfl
theorem q84 : Cond.classLink RL 7 RX4 ∈ TB := tb_at 84 (by decide +kernel) rfl
theorem q85 : Cond.instantiable RX4 6 ∈ TB := tb_at 85 (by decide +kernel) rfl
theorem q86 : Cond.methodLink RL 9 yX4_init ∈ TB := tb_at 86 (by decide +kernel) rfl
theorem q87 : Cond.instanceMethod yX4_init ∈ TB := tb_at 87 (by decide +kernel) rfl
set_option maxRecDepth 100000 in
theorem q88 : Cond.code yX4_init cX4_init 2 none ∈ TB := tb_at 88 rfl rfl
theorem q89 : Cond.methodLink RX4 1 Lib.objectInit ∈ TB := tb_at 89 (by decide +kernel) rfl
theorem q90 : Cond.instanceMethod Lib.objectInit ∈ TB := tb_at 90 (by decide +kernel) rfl
set_option maxRecDepth 100000 in
theorem q91 : Cond.code Lib.objectInit ⟨#[0xb1]⟩ 1 none ∈ TB := tb_at 91 rfl rfl
theorem q92 : Cond.classLink RX4 7 RX2 ∈ TB := tb_at 92 (by decide +kernel) rfl
theorem q93 : Cond.instantiable RX2 7 ∈ TB := tb_at 93 (by decide +kernel) rfl
theorem q94 : Cond.methodLink RX4 9 yX2_init ∈ TB := tb_at 94 (by decide +kernel) rfl
theorem q95 : Cond.instanceMethod yX2_init ∈ TB := tb_at 95 (by decide +kernel) rfl
set_option maxRecDepth 100000 in
theorem q96 : Cond.code yX2_init cX2_init 1 none ∈ TB := tb_at 96 rfl rfl
theorem q97 : Cond.methodLink RX2 3 Lib.objectInit ∈ TB := tb_at 97 (by decide +kernel) rfl
theorem q98 : Cond.classLink RX2 15 RX1 ∈ TB := tb_at 98 (by decide +kernel) rfl
theorem q99 : Cond.instantiable RX1 5 ∈ TB := tb_at 99 (by decide +kernel) rfl
theorem q100 : Cond.methodLinkNest RX2 17 yX1_init RX4 ∈ NB := nb_at 100 (by decide +kernel) rfl
theorem q101 : Cond.instanceMethod yX1_init ∈ TB := tb_at 101 (by decide +kernel) rfl
set_option maxRecDepth 100000 in
theorem q102 : Cond.code yX1_init cX1_init 1 none ∈ TB := tb_at 102 rfl rfl
theorem q103 : Cond.methodLink RX1 3 Lib.objectInit ∈ TB := tb_at 103 (by decide +kernel) rfl
theorem q104 : Cond.fieldLink RX1 9 "EscheatLots$Lots" "count" "I" ∈ TB := tb_at 104 (by decide +kernel) rfl
theorem q105 : Cond.fieldLink RX2 62 "EscheatLots$Lots" "count" "I" ∈ TB := tb_at 105 (by decide +kernel) rfl
theorem q106 : Cond.fieldLink RX4 153 "EscheatLots$Lots" "count" "I" ∈ TB := tb_at 106 (by decide +kernel) rfl
theorem q107 : Cond.fieldLink RX1 15 "EscheatLots$Lots" "value" "[I" ∈ TB := tb_at 107 (by decide +kernel) rfl
theorem q108 : Cond.fieldLink RX2 65 "EscheatLots$Lots" "value" "[I" ∈ TB := tb_at 108 (by decide +kernel) rfl
theorem q109 : Cond.fieldLink RX1 19 "EscheatLots$Lots" "state" "[I" ∈ TB := tb_at 109 (by decide +kernel) rfl
theorem q110 : Cond.fieldLink RX2 72 "EscheatLots$Lots" "state" "[I" ∈ TB := tb_at 110 (by decide +kernel) rfl
theorem q111 : Cond.fieldLink RX1 22 "EscheatLots$Lots" "counted" "[I" ∈ TB := tb_at 111 (by decide +kernel) rfl
theorem q112 : Cond.fieldLink RX2 175 "EscheatLots$Lots" "counted" "[I" ∈ TB := tb_at 112 (by decide +kernel) rfl
theorem q113 : Cond.fieldLink RX1 25 "EscheatLots$Lots" "since" "[I" ∈ TB := tb_at 113 (by decide +kernel) rfl
theorem q114 : Cond.fieldLink RX2 106 "EscheatLots$Lots" "since" "[I" ∈ TB := tb_at 114 (by decide +kernel) rfl
theorem q115 : Cond.lays RX1 "EscheatLots$Lots" "count" "I" ∈ TB := tb_at 115 (by decide +kernel) rfl
theorem q117 : Cond.laysFinal RX1 "EscheatLots$Lots" "value" "[I" ∈ TB := tb_at 117 (by decide +kernel) rfl
theorem q119 : Cond.laysFinal RX1 "EscheatLots$Lots" "state" "[I" ∈ TB := tb_at 119 (by decide +kernel) rfl
theorem q121 : Cond.laysFinal RX1 "EscheatLots$Lots" "counted" "[I" ∈ TB := tb_at 121 (by decide +kernel) rfl
theorem q123 : Cond.laysFinal RX1 "EscheatLots$Lots" "since" "[I" ∈ TB := tb_at 123 (by decide +kernel) rfl
theorem q126 : Cond.arrayClass .int ∈ TB := tb_at 126 (by decide +kernel) rfl
theorem q127 : Cond.classLink RX2 22 RX0 ∈ TB := tb_at 127 (by decide +kernel) rfl
theorem q128 : Cond.instantiable RX0 8 ∈ TB := tb_at 128 (by decide +kernel) rfl
theorem q129 : Cond.methodLinkNest RX2 24 yX0_init RX4 ∈ NB := nb_at 129 (by decide +kernel) rfl
theorem q130 : Cond.instanceMethod yX0_init ∈ TB := tb_at 130 (by decide +kernel) rfl
set_option maxRecDepth 100000 in
theorem q131 : Cond.code yX0_init cX0_init 1 none ∈ TB := tb_at 131 rfl rfl
theorem q132 : Cond.methodLink RX0 3 Lib.objectInit ∈ TB := tb_at 132 (by decide +kernel) rfl
theorem q133 : Cond.fieldLink RX0 9 "EscheatLots$Claims" "count" "I" ∈ TB := tb_at 133 (by decide +kernel) rfl
theorem q134 : Cond.fieldLink RX2 96 "EscheatLots$Claims" "count" "I" ∈ TB := tb_at 134 (by decide +kernel) rfl
theorem q135 : Cond.fieldLink RX0 15 "EscheatLots$Claims" "heir" "[I" ∈ TB := tb_at 135 (by decide +kernel) rfl
theorem q136 : Cond.fieldLink RX2 97 "EscheatLots$Claims" "heir" "[I" ∈ TB := tb_at 136 (by decide +kernel) rfl
theorem q137 : Cond.fieldLink RX0 19 "EscheatLots$Claims" "lot" "[I" ∈ TB := tb_at 137 (by decide +kernel) rfl
theorem q138 : Cond.fieldLink RX2 100 "EscheatLots$Claims" "lot" "[I" ∈ TB := tb_at 138 (by decide +kernel) rfl
theorem q139 : Cond.fieldLink RX0 22 "EscheatLots$Claims" "line" "[I" ∈ TB := tb_at 139 (by decide +kernel) rfl
theorem q140 : Cond.fieldLink RX2 103 "EscheatLots$Claims" "line" "[I" ∈ TB := tb_at 140 (by decide +kernel) rfl
theorem q141 : Cond.fieldLink RX0 25 "EscheatLots$Claims" "proof" "[I" ∈ TB := tb_at 141 (by decide +kernel) rfl
theorem q142 : Cond.fieldLink RX2 116 "EscheatLots$Claims" "proof" "[I" ∈ TB := tb_at 142 (by decide +kernel) rfl
theorem q143 : Cond.fieldLink RX0 28 "EscheatLots$Claims" "state" "[I" ∈ TB := tb_at 143 (by decide +kernel) rfl
theorem q144 : Cond.fieldLink RX2 128 "EscheatLots$Claims" "state" "[I" ∈ TB := tb_at 144 (by decide +kernel) rfl
theorem q145 : Cond.fieldLink RX0 31 "EscheatLots$Claims" "waited" "[I" ∈ TB := tb_at 145 (by decide +kernel) rfl
theorem q146 : Cond.fieldLink RX2 125 "EscheatLots$Claims" "waited" "[I" ∈ TB := tb_at 146 (by decide +kernel) rfl
theorem q147 : Cond.fieldLink RX0 34 "EscheatLots$Claims" "brought" "[I" ∈ TB := tb_at 147 (by decide +kernel) rfl
theorem q148 : Cond.fieldLink RX2 162 "EscheatLots$Claims" "brought" "[I" ∈ TB := tb_at 148 (by decide +kernel) rfl
theorem q149 : Cond.lays RX0 "EscheatLots$Claims" "count" "I" ∈ TB := tb_at 149 (by decide +kernel) rfl
theorem q151 : Cond.laysFinal RX0 "EscheatLots$Claims" "heir" "[I" ∈ TB := tb_at 151 (by decide +kernel) rfl
theorem q153 : Cond.laysFinal RX0 "EscheatLots$Claims" "lot" "[I" ∈ TB := tb_at 153 (by decide +kernel) rfl
theorem q155 : Cond.laysFinal RX0 "EscheatLots$Claims" "line" "[I" ∈ TB := tb_at 155 (by decide +kernel) rfl
theorem q157 : Cond.laysFinal RX0 "EscheatLots$Claims" "proof" "[I" ∈ TB := tb_at 157 (by decide +kernel) rfl
theorem q159 : Cond.laysFinal RX0 "EscheatLots$Claims" "state" "[I" ∈ TB := tb_at 159 (by decide +kernel) rfl
theorem q161 : Cond.laysFinal RX0 "EscheatLots$Claims" "waited" "[I" ∈ TB := tb_at 161 (by decide +kernel) rfl
theorem q163 : Cond.laysFinal RX0 "EscheatLots$Claims" "brought" "[I" ∈ TB := tb_at 163 (by decide +kernel) rfl
theorem q166 : Cond.fieldLinkNest RX2 42 "EscheatLots" "AT_FIRST" "[I" RX4 ∈ NB := nb_at 166 (by decide +kernel) rfl
theorem q168 : Cond.methodLinkNest RX2 45 yX4_copy RX4 ∈ NB := nb_at 168 (by decide +kernel) rfl
theorem q169 : Cond.static yX4_copy ∈ TB := tb_at 169 (by decide +kernel) rfl
set_option maxRecDepth 100000 in
theorem q170 : Cond.code yX4_copy cX4_copy 2 none ∈ TB := tb_at 170 rfl rfl
theorem q171 : Cond.methodLink RX4 165 Lib.Math.min.name ∈ TB := tb_at 171 (by decide +kernel) rfl
theorem q172 : Cond.static Lib.Math.min.name ∈ TB := tb_at 172 (by decide +kernel) rfl
set_option maxRecDepth 100000 in
theorem q173 : Cond.code Lib.Math.min.name Lib.Math.min.code 2 (some .int) ∈ TB := tb_at 173 rfl rfl
theorem q174 : Cond.methodLink RX4 170 arraycopyName ∈ TB := tb_at 174 (by decide +kernel) rfl
theorem q175 : Cond.static arraycopyName ∈ TB := tb_at 175 (by decide +kernel) rfl
theorem q176 : Cond.native arraycopyName ∈ TB := tb_at 176 (by decide +kernel) rfl
theorem q177 : Cond.fieldLink RX2 9 "EscheatLots$Office" "settings" "[I" ∈ TB := tb_at 177 (by decide +kernel) rfl
theorem q178 : Cond.fieldLink RX2 18 "EscheatLots$Office" "lots" "LEscheatLots$Lots;" ∈ TB := tb_at 178 (by decide +kernel) rfl
theorem q179 : Cond.fieldLink RX4 149 "EscheatLots$Office" "lots" "LEscheatLots$Lots;" ∈ TB := tb_at 179 (by decide +kernel) rfl
theorem q180 : Cond.fieldLink RX2 25 "EscheatLots$Office" "claims" "LEscheatLots$Claims;" ∈ TB := tb_at 180 (by decide +kernel) rfl
theorem q181 : Cond.fieldLink RX2 29 "EscheatLots$Office" "paidOrder" "[I" ∈ TB := tb_at 181 (by decide +kernel) rfl
theorem q182 : Cond.fieldLink RX2 32 "EscheatLots$Office" "paidHeirs" "I" ∈ TB := tb_at 182 (by decide +kernel) rfl
theorem q183 : Cond.fieldLink RX2 36 "EscheatLots$Office" "crown" "I" ∈ TB := tb_at 183 (by decide +kernel) rfl
theorem q184 : Cond.fieldLink RX2 39 "EscheatLots$Office" "day" "I" ∈ TB := tb_at 184 (by decide +kernel) rfl
theorem q185 : Cond.laysFinal RX2 "EscheatLots$Office" "settings" "[I" ∈ TB := tb_at 185 (by decide +kernel) rfl
theorem q187 : Cond.laysFinal RX2 "EscheatLots$Office" "lots" "LEscheatLots$Lots;" ∈ TB := tb_at 187 (by decide +kernel) rfl
theorem q189 : Cond.laysFinal RX2 "EscheatLots$Office" "claims" "LEscheatLots$Claims;" ∈ TB := tb_at 189 (by decide +kernel) rfl
theorem q191 : Cond.laysFinal RX2 "EscheatLots$Office" "paidOrder" "[I" ∈ TB := tb_at 191 (by decide +kernel) rfl
theorem q193 : Cond.lays RX2 "EscheatLots$Office" "paidHeirs" "I" ∈ TB := tb_at 193 (by decide +kernel) rfl
theorem q195 : Cond.lays RX2 "EscheatLots$Office" "crown" "I" ∈ TB := tb_at 195 (by decide +kernel) rfl
theorem q197 : Cond.lays RX2 "EscheatLots$Office" "day" "I" ∈ TB := tb_at 197 (by decide +kernel) rfl
theorem q200 : Cond.classLink RX4 16 RX3 ∈ TB := tb_at 200 (by decide +kernel) rfl
theorem q201 : Cond.instantiable RX3 7 ∈ TB := tb_at 201 (by decide +kernel) rfl
theorem q202 : Cond.methodLinkNest RX4 18 yX3_init RX4 ∈ NB := nb_at 202 (by decide +kernel) rfl
theorem q203 : Cond.instanceMethod yX3_init ∈ TB := tb_at 203 (by decide +kernel) rfl
set_option maxRecDepth 100000 in
theorem q204 : Cond.code yX3_init cX3_init 1 none ∈ TB := tb_at 204 rfl rfl
theorem q205 : Cond.methodLink RX3 3 Lib.objectInit ∈ TB := tb_at 205 (by decide +kernel) rfl
theorem q206 : Cond.fieldLink RX3 9 "EscheatLots$Pad" "text" "[C" ∈ TB := tb_at 206 (by decide +kernel) rfl
theorem q207 : Cond.fieldLink RX3 15 "EscheatLots$Pad" "length" "I" ∈ TB := tb_at 207 (by decide +kernel) rfl
theorem q208 : Cond.fieldLink RX4 86 "EscheatLots$Pad" "length" "I" ∈ TB := tb_at 208 (by decide +kernel) rfl
theorem q209 : Cond.fieldLink RX3 19 "EscheatLots$Pad" "at" "I" ∈ TB := tb_at 209 (by decide +kernel) rfl
theorem q210 : Cond.fieldLink RX4 118 "EscheatLots$Pad" "at" "I" ∈ TB := tb_at 210 (by decide +kernel) rfl
theorem q211 : Cond.fieldLink RX3 22 "EscheatLots$Pad" "kind" "C" ∈ TB := tb_at 211 (by decide +kernel) rfl
theorem q212 : Cond.fieldLink RX4 132 "EscheatLots$Pad" "kind" "C" ∈ TB := tb_at 212 (by decide +kernel) rfl
theorem q213 : Cond.fieldLink RX3 26 "EscheatLots$Pad" "first" "I" ∈ TB := tb_at 213 (by decide +kernel) rfl
theorem q214 : Cond.fieldLink RX4 136 "EscheatLots$Pad" "first" "I" ∈ TB := tb_at 214 (by decide +kernel) rfl
theorem q215 : Cond.fieldLink RX3 29 "EscheatLots$Pad" "second" "I" ∈ TB := tb_at 215 (by decide +kernel) rfl
theorem q216 : Cond.fieldLink RX4 139 "EscheatLots$Pad" "second" "I" ∈ TB := tb_at 216 (by decide +kernel) rfl
theorem q217 : Cond.fieldLink RX3 32 "EscheatLots$Pad" "third" "I" ∈ TB := tb_at 217 (by decide +kernel) rfl
theorem q218 : Cond.fieldLink RX4 142 "EscheatLots$Pad" "third" "I" ∈ TB := tb_at 218 (by decide +kernel) rfl
theorem q219 : Cond.laysFinal RX3 "EscheatLots$Pad" "text" "[C" ∈ TB := tb_at 219 (by decide +kernel) rfl
theorem q221 : Cond.lays RX3 "EscheatLots$Pad" "length" "I" ∈ TB := tb_at 221 (by decide +kernel) rfl
theorem q223 : Cond.lays RX3 "EscheatLots$Pad" "at" "I" ∈ TB := tb_at 223 (by decide +kernel) rfl
theorem q225 : Cond.lays RX3 "EscheatLots$Pad" "kind" "C" ∈ TB := tb_at 225 (by decide +kernel) rfl
theorem q227 : Cond.lays RX3 "EscheatLots$Pad" "first" "I" ∈ TB := tb_at 227 (by decide +kernel) rfl
theorem q229 : Cond.lays RX3 "EscheatLots$Pad" "second" "I" ∈ TB := tb_at 229 (by decide +kernel) rfl
theorem q231 : Cond.lays RX3 "EscheatLots$Pad" "third" "I" ∈ TB := tb_at 231 (by decide +kernel) rfl
theorem q234 : Cond.arrayClass .char ∈ TB := tb_at 234 (by decide +kernel) rfl
theorem q236 : Cond.fieldLink RX4 10 "EscheatLots" "office" "LEscheatLots$Office;" ∈ TB := tb_at 236 (by decide +kernel) rfl
theorem q237 : Cond.fieldLink RX4 19 "EscheatLots" "pad" "LEscheatLots$Pad;" ∈ TB := tb_at 237 (by decide +kernel) rfl
theorem q238 : Cond.fieldLink RX4 23 "EscheatLots" "history" "[LEscheatLots$Office;" ∈ TB := tb_at 238 (by decide +kernel) rfl
theorem q239 : Cond.fieldLink RX4 27 "EscheatLots" "changes" "I" ∈ TB := tb_at 239 (by decide +kernel) rfl
theorem q240 : Cond.fieldLink RX4 31 "EscheatLots" "slots" "[LEscheatLots$Office;" ∈ TB := tb_at 240 (by decide +kernel) rfl
theorem q241 : Cond.fieldLink RX4 34 "EscheatLots" "saved" "[Z" ∈ TB := tb_at 241 (by decide +kernel) rfl
theorem q242 : Cond.laysFinal RX4 "EscheatLots" "office" "LEscheatLots$Office;" ∈ TB := tb_at 242 (by decide +kernel) rfl
theorem q244 : Cond.laysFinal RX4 "EscheatLots" "pad" "LEscheatLots$Pad;" ∈ TB := tb_at 244 (by decide +kernel) rfl
theorem q246 : Cond.laysFinal RX4 "EscheatLots" "history" "[LEscheatLots$Office;" ∈ TB := tb_at 246 (by decide +kernel) rfl
theorem q248 : Cond.lays RX4 "EscheatLots" "changes" "I" ∈ TB := tb_at 248 (by decide +kernel) rfl
theorem q250 : Cond.laysFinal RX4 "EscheatLots" "slots" "[LEscheatLots$Office;" ∈ TB := tb_at 250 (by decide +kernel) rfl
theorem q252 : Cond.laysFinal RX4 "EscheatLots" "saved" "[Z" ∈ TB := tb_at 252 (by decide +kernel) rfl
theorem q255 : Cond.arrayClass .boolean ∈ TB := tb_at 255 (by decide +kernel) rfl
theorem q256 : Cond.methodLink RL 13 yX4_set ∈ TB := tb_at 256 (by decide +kernel) rfl
theorem q257 : Cond.instanceMethod yX4_set ∈ TB := tb_at 257 (by decide +kernel) rfl
theorem q258 : Cond.selects RX4 yX4_set yX4_set ∈ TB := tb_at 258 (by decide +kernel) rfl
set_option maxRecDepth 100000 in
theorem q259 : Cond.code yX4_set cX4_set 3 (some .int) ∈ TB := tb_at 259 rfl rfl
theorem q260 : Cond.methodLink RX4 38 yX4_draft ∈ TB := tb_at 260 (by decide +kernel) rfl
theorem q262 : Cond.instanceMethod yX4_draft ∈ TB := tb_at 262 (by decide +kernel) rfl
set_option maxRecDepth 100000 in
theorem q263 : Cond.code yX4_draft cX4_draft 1 none ∈ TB := tb_at 263 rfl rfl
theorem q264 : Cond.methodLink RX4 145 yX2_become ∈ TB := tb_at 264 (by decide +kernel) rfl
theorem q265 : Cond.instanceMethod yX2_become ∈ TB := tb_at 265 (by decide +kernel) rfl
theorem q266 : Cond.selects RX2 yX2_become yX2_become ∈ TB := tb_at 266 (by decide +kernel) rfl
set_option maxRecDepth 100000 in
theorem q267 : Cond.code yX2_become cX2_become 2 none ∈ TB := tb_at 267 rfl rfl
theorem q268 : Cond.methodLink RX2 49 yX1_become ∈ TB := tb_at 268 (by decide +kernel) rfl
theorem q269 : Cond.instanceMethod yX1_become ∈ TB := tb_at 269 (by decide +kernel) rfl
theorem q270 : Cond.selects RX1 yX1_become yX1_become ∈ TB := tb_at 270 (by decide +kernel) rfl
set_option maxRecDepth 100000 in
theorem q271 : Cond.code yX1_become cX1_become 2 none ∈ TB := tb_at 271 rfl rfl
theorem q272 : Cond.methodLinkNest RX1 28 yX4_copy RX4 ∈ NB := nb_at 272 (by decide +kernel) rfl
theorem q273 : Cond.methodLink RX2 53 yX0_become ∈ TB := tb_at 273 (by decide +kernel) rfl
theorem q274 : Cond.instanceMethod yX0_become ∈ TB := tb_at 274 (by decide +kernel) rfl
theorem q275 : Cond.selects RX0 yX0_become yX0_become ∈ TB := tb_at 275 (by decide +kernel) rfl
set_option maxRecDepth 100000 in
theorem q276 : Cond.code yX0_become cX0_become 2 none ∈ TB := tb_at 276 rfl rfl
theorem q277 : Cond.methodLinkNest RX0 37 yX4_copy RX4 ∈ NB := nb_at 277 (by decide +kernel) rfl
theorem q278 : Cond.methodLink RX4 41 yX2_changeSetting ∈ TB := tb_at 278 (by decide +kernel) rfl
theorem q279 : Cond.instanceMethod yX2_changeSetting ∈ TB := tb_at 279 (by decide +kernel) rfl
theorem q280 : Cond.selects RX2 yX2_changeSetting yX2_changeSetting ∈ TB := tb_at 280 (by decide +kernel) rfl
set_option maxRecDepth 100000 in
theorem q281 : Cond.code yX2_changeSetting cX2_changeSetting 4 (some .int) ∈ TB := tb_at 281 rfl rfl
theorem q282 : Cond.fieldLinkNest RX2 56 "EscheatLots" "LEAST" "[I" RX4 ∈ NB := nb_at 282 (by decide +kernel) rfl
theorem q284 : Cond.fieldLinkNest RX2 59 "EscheatLots" "MOST" "[I" RX4 ∈ NB := nb_at 284 (by decide +kernel) rfl
theorem q286 : Cond.methodLink RX4 45 yX4_recorded ∈ TB := tb_at 286 (by decide +kernel) rfl
theorem q288 : Cond.instanceMethod yX4_recorded ∈ TB := tb_at 288 (by decide +kernel) rfl
set_option maxRecDepth 100000 in
theorem q289 : Cond.code yX4_recorded cX4_recorded 2 (some .int) ∈ TB := tb_at 289 rfl rfl
theorem q290 : Cond.methodLink RX4 158 yX4_dropOldest ∈ TB := tb_at 290 (by decide +kernel) rfl
theorem q292 : Cond.instanceMethod yX4_dropOldest ∈ TB := tb_at 292 (by decide +kernel) rfl
set_option maxRecDepth 100000 in
theorem q293 : Cond.code yX4_dropOldest cX4_dropOldest 3 none ∈ TB := tb_at 293 rfl rfl
theorem q294 : Cond.methodLink RL 18 yX4_lot ∈ TB := tb_at 294 (by decide +kernel) rfl
theorem q295 : Cond.instanceMethod yX4_lot ∈ TB := tb_at 295 (by decide +kernel) rfl
theorem q296 : Cond.selects RX4 yX4_lot yX4_lot ∈ TB := tb_at 296 (by decide +kernel) rfl
set_option maxRecDepth 100000 in
theorem q297 : Cond.code yX4_lot cX4_lot 2 (some .int) ∈ TB := tb_at 297 rfl rfl
theorem q298 : Cond.methodLink RX4 49 yX2_addLot ∈ TB := tb_at 298 (by decide +kernel) rfl
theorem q299 : Cond.instanceMethod yX2_addLot ∈ TB := tb_at 299 (by decide +kernel) rfl
theorem q300 : Cond.selects RX2 yX2_addLot yX2_addLot ∈ TB := tb_at 300 (by decide +kernel) rfl
set_option maxRecDepth 100000 in
theorem q301 : Cond.code yX2_addLot cX2_addLot 3 (some .int) ∈ TB := tb_at 301 rfl rfl
theorem q302 : Cond.methodLink RL 23 yX4_notice ∈ TB := tb_at 302 (by decide +kernel) rfl
theorem q303 : Cond.instanceMethod yX4_notice ∈ TB := tb_at 303 (by decide +kernel) rfl
theorem q304 : Cond.selects RX4 yX4_notice yX4_notice ∈ TB := tb_at 304 (by decide +kernel) rfl
set_option maxRecDepth 100000 in
theorem q305 : Cond.code yX4_notice cX4_notice 2 (some .int) ∈ TB := tb_at 305 rfl rfl
theorem q306 : Cond.methodLink RX4 52 yX2_giveNotice ∈ TB := tb_at 306 (by decide +kernel) rfl
theorem q307 : Cond.instanceMethod yX2_giveNotice ∈ TB := tb_at 307 (by decide +kernel) rfl
theorem q308 : Cond.selects RX2 yX2_giveNotice yX2_giveNotice ∈ TB := tb_at 308 (by decide +kernel) rfl
set_option maxRecDepth 100000 in
theorem q309 : Cond.code yX2_giveNotice cX2_giveNotice 2 (some .int) ∈ TB := tb_at 309 rfl rfl
theorem q310 : Cond.methodLink RX2 68 yX1_exists ∈ TB := tb_at 310 (by decide +kernel) rfl
theorem q311 : Cond.instanceMethod yX1_exists ∈ TB := tb_at 311 (by decide +kernel) rfl
theorem q312 : Cond.selects RX1 yX1_exists yX1_exists ∈ TB := tb_at 312 (by decide +kernel) rfl
set_option maxRecDepth 100000 in
theorem q313 : Cond.code yX1_exists cX1_exists 2 (some .boolean) ∈ TB := tb_at 313 rfl rfl
theorem q314 : Cond.methodLink RX2 75 yX1_inState ∈ TB := tb_at 314 (by decide +kernel) rfl
theorem q315 : Cond.instanceMethod yX1_inState ∈ TB := tb_at 315 (by decide +kernel) rfl
theorem q316 : Cond.selects RX1 yX1_inState yX1_inState ∈ TB := tb_at 316 (by decide +kernel) rfl
set_option maxRecDepth 100000 in
theorem q317 : Cond.code yX1_inState cX1_inState 2 (some .int) ∈ TB := tb_at 317 rfl rfl
theorem q318 : Cond.methodLinkNest RX1 36 yX4_rowsWith RX4 ∈ NB := nb_at 318 (by decide +kernel) rfl
theorem q319 : Cond.static yX4_rowsWith ∈ TB := tb_at 319 (by decide +kernel) rfl
set_option maxRecDepth 100000 in
theorem q320 : Cond.code yX4_rowsWith cX4_rowsWith 5 (some .int) ∈ TB := tb_at 320 rfl rfl
theorem q321 : Cond.methodLink RX2 79 yJ6_bitCount_0f7a4 ∈ TB := tb_at 321 (by decide +kernel) rfl
theorem q322 : Cond.static yJ6_bitCount_0f7a4 ∈ TB := tb_at 322 (by decide +kernel) rfl
set_option maxRecDepth 100000 in
theorem q323 : Cond.code yJ6_bitCount_0f7a4 cJ6_bitCount_0f7a4 1 (some .int) ∈ TB := tb_at 323 rfl rfl
theorem q324 : Cond.constant RJ6 265 (1431655765) ∈ TB := tb_at 324 (by decide +kernel) rfl
theorem q325 : Cond.constant RJ6 266 (858993459) ∈ TB := tb_at 325 (by decide +kernel) rfl
theorem q326 : Cond.constant RJ6 267 (252645135) ∈ TB := tb_at 326 (by decide +kernel) rfl
theorem q327 : Cond.methodLink RL 27 yX4_claim ∈ TB := tb_at 327 (by decide +kernel) rfl
theorem q328 : Cond.instanceMethod yX4_claim ∈ TB := tb_at 328 (by decide +kernel) rfl
theorem q329 : Cond.selects RX4 yX4_claim yX4_claim ∈ TB := tb_at 329 (by decide +kernel) rfl
set_option maxRecDepth 100000 in
theorem q330 : Cond.code yX4_claim cX4_claim 4 (some .int) ∈ TB := tb_at 330 rfl rfl
theorem q331 : Cond.methodLink RX4 55 yX2_addClaim ∈ TB := tb_at 331 (by decide +kernel) rfl
theorem q332 : Cond.instanceMethod yX2_addClaim ∈ TB := tb_at 332 (by decide +kernel) rfl
theorem q333 : Cond.selects RX2 yX2_addClaim yX2_addClaim ∈ TB := tb_at 333 (by decide +kernel) rfl
set_option maxRecDepth 100000 in
theorem q334 : Cond.code yX2_addClaim cX2_addClaim 5 (some .int) ∈ TB := tb_at 334 rfl rfl
theorem q335 : Cond.methodLink RX2 84 yX2_isHeir ∈ TB := tb_at 335 (by decide +kernel) rfl
theorem q336 : Cond.static yX2_isHeir ∈ TB := tb_at 336 (by decide +kernel) rfl
set_option maxRecDepth 100000 in
theorem q337 : Cond.code yX2_isHeir cX2_isHeir 1 (some .boolean) ∈ TB := tb_at 337 rfl rfl
theorem q338 : Cond.methodLink RX2 87 yX2_canBeClaimed ∈ TB := tb_at 338 (by decide +kernel) rfl
theorem q340 : Cond.instanceMethod yX2_canBeClaimed ∈ TB := tb_at 340 (by decide +kernel) rfl
set_option maxRecDepth 100000 in
theorem q341 : Cond.code yX2_canBeClaimed cX2_canBeClaimed 2 (some .boolean) ∈ TB := tb_at 341 rfl rfl
theorem q342 : Cond.methodLink RX2 109 yX1_isOver ∈ TB := tb_at 342 (by decide +kernel) rfl
theorem q343 : Cond.instanceMethod yX1_isOver ∈ TB := tb_at 343 (by decide +kernel) rfl
theorem q344 : Cond.selects RX1 yX1_isOver yX1_isOver ∈ TB := tb_at 344 (by decide +kernel) rfl
set_option maxRecDepth 100000 in
theorem q345 : Cond.code yX1_isOver cX1_isOver 2 (some .boolean) ∈ TB := tb_at 345 rfl rfl
theorem q346 : Cond.methodLink RX2 90 yX0_ofHeir ∈ TB := tb_at 346 (by decide +kernel) rfl
theorem q347 : Cond.instanceMethod yX0_ofHeir ∈ TB := tb_at 347 (by decide +kernel) rfl
theorem q348 : Cond.selects RX0 yX0_ofHeir yX0_ofHeir ∈ TB := tb_at 348 (by decide +kernel) rfl
set_option maxRecDepth 100000 in
theorem q349 : Cond.code yX0_ofHeir cX0_ofHeir 2 (some .int) ∈ TB := tb_at 349 rfl rfl
theorem q350 : Cond.methodLinkNest RX0 45 yX4_rowsWith RX4 ∈ NB := nb_at 350 (by decide +kernel) rfl
theorem q351 : Cond.methodLink RX2 93 yX0_standingTo ∈ TB := tb_at 351 (by decide +kernel) rfl
theorem q352 : Cond.instanceMethod yX0_standingTo ∈ TB := tb_at 352 (by decide +kernel) rfl
theorem q353 : Cond.selects RX0 yX0_standingTo yX0_standingTo ∈ TB := tb_at 353 (by decide +kernel) rfl
set_option maxRecDepth 100000 in
theorem q354 : Cond.code yX0_standingTo cX0_standingTo 2 (some .int) ∈ TB := tb_at 354 rfl rfl
theorem q355 : Cond.methodLink RX0 52 yX0_toLot ∈ TB := tb_at 355 (by decide +kernel) rfl
theorem q356 : Cond.instanceMethod yX0_toLot ∈ TB := tb_at 356 (by decide +kernel) rfl
theorem q357 : Cond.selects RX0 yX0_toLot yX0_toLot ∈ TB := tb_at 357 (by decide +kernel) rfl
set_option maxRecDepth 100000 in
theorem q358 : Cond.code yX0_toLot cX0_toLot 2 (some .int) ∈ TB := tb_at 358 rfl rfl
theorem q359 : Cond.methodLink RX0 55 yX0_standing ∈ TB := tb_at 359 (by decide +kernel) rfl
theorem q360 : Cond.instanceMethod yX0_standing ∈ TB := tb_at 360 (by decide +kernel) rfl
theorem q361 : Cond.selects RX0 yX0_standing yX0_standing ∈ TB := tb_at 361 (by decide +kernel) rfl
set_option maxRecDepth 100000 in
theorem q362 : Cond.code yX0_standing cX0_standing 1 (some .int) ∈ TB := tb_at 362 rfl rfl
theorem q363 : Cond.methodLink RX0 49 yX0_inState ∈ TB := tb_at 363 (by decide +kernel) rfl
theorem q364 : Cond.instanceMethod yX0_inState ∈ TB := tb_at 364 (by decide +kernel) rfl
theorem q365 : Cond.selects RX0 yX0_inState yX0_inState ∈ TB := tb_at 365 (by decide +kernel) rfl
set_option maxRecDepth 100000 in
theorem q366 : Cond.code yX0_inState cX0_inState 2 (some .int) ∈ TB := tb_at 366 rfl rfl
theorem q367 : Cond.methodLink RL 32 yX4_prove ∈ TB := tb_at 367 (by decide +kernel) rfl
theorem q368 : Cond.instanceMethod yX4_prove ∈ TB := tb_at 368 (by decide +kernel) rfl
theorem q369 : Cond.selects RX4 yX4_prove yX4_prove ∈ TB := tb_at 369 (by decide +kernel) rfl
set_option maxRecDepth 100000 in
theorem q370 : Cond.code yX4_prove cX4_prove 3 (some .int) ∈ TB := tb_at 370 rfl rfl
theorem q371 : Cond.methodLink RX4 59 yX2_addProof ∈ TB := tb_at 371 (by decide +kernel) rfl
theorem q372 : Cond.instanceMethod yX2_addProof ∈ TB := tb_at 372 (by decide +kernel) rfl
theorem q373 : Cond.selects RX2 yX2_addProof yX2_addProof ∈ TB := tb_at 373 (by decide +kernel) rfl
set_option maxRecDepth 100000 in
theorem q374 : Cond.code yX2_addProof cX2_addProof 3 (some .int) ∈ TB := tb_at 374 rfl rfl
theorem q375 : Cond.methodLink RX2 112 yX0_exists ∈ TB := tb_at 375 (by decide +kernel) rfl
theorem q376 : Cond.instanceMethod yX0_exists ∈ TB := tb_at 376 (by decide +kernel) rfl
theorem q377 : Cond.selects RX0 yX0_exists yX0_exists ∈ TB := tb_at 377 (by decide +kernel) rfl
set_option maxRecDepth 100000 in
theorem q378 : Cond.code yX0_exists cX0_exists 2 (some .boolean) ∈ TB := tb_at 378 rfl rfl
theorem q379 : Cond.methodLink RX2 113 yX0_isOpen ∈ TB := tb_at 379 (by decide +kernel) rfl
theorem q380 : Cond.instanceMethod yX0_isOpen ∈ TB := tb_at 380 (by decide +kernel) rfl
theorem q381 : Cond.selects RX0 yX0_isOpen yX0_isOpen ∈ TB := tb_at 381 (by decide +kernel) rfl
set_option maxRecDepth 100000 in
theorem q382 : Cond.code yX0_isOpen cX0_isOpen 2 (some .boolean) ∈ TB := tb_at 382 rfl rfl
theorem q383 : Cond.methodLink RX2 119 Lib.Math.min.name ∈ TB := tb_at 383 (by decide +kernel) rfl
theorem q384 : Cond.methodLink RL 36 yX4_decide ∈ TB := tb_at 384 (by decide +kernel) rfl
theorem q385 : Cond.instanceMethod yX4_decide ∈ TB := tb_at 385 (by decide +kernel) rfl
theorem q386 : Cond.selects RX4 yX4_decide yX4_decide ∈ TB := tb_at 386 (by decide +kernel) rfl
set_option maxRecDepth 100000 in
theorem q387 : Cond.code yX4_decide cX4_decide 2 (some .int) ∈ TB := tb_at 387 rfl rfl
theorem q388 : Cond.methodLink RX4 62 yX2_judge ∈ TB := tb_at 388 (by decide +kernel) rfl
theorem q389 : Cond.instanceMethod yX2_judge ∈ TB := tb_at 389 (by decide +kernel) rfl
theorem q390 : Cond.selects RX2 yX2_judge yX2_judge ∈ TB := tb_at 390 (by decide +kernel) rfl
set_option maxRecDepth 100000 in
theorem q391 : Cond.code yX2_judge cX2_judge 2 (some .int) ∈ TB := tb_at 391 rfl rfl
theorem q392 : Cond.methodLink RL 40 yX4_withdraw ∈ TB := tb_at 392 (by decide +kernel) rfl
theorem q393 : Cond.instanceMethod yX4_withdraw ∈ TB := tb_at 393 (by decide +kernel) rfl
theorem q394 : Cond.selects RX4 yX4_withdraw yX4_withdraw ∈ TB := tb_at 394 (by decide +kernel) rfl
set_option maxRecDepth 100000 in
theorem q395 : Cond.code yX4_withdraw cX4_withdraw 2 (some .int) ∈ TB := tb_at 395 rfl rfl
theorem q396 : Cond.methodLink RX4 65 yX2_takeBack ∈ TB := tb_at 396 (by decide +kernel) rfl
theorem q397 : Cond.instanceMethod yX2_takeBack ∈ TB := tb_at 397 (by decide +kernel) rfl
theorem q398 : Cond.selects RX2 yX2_takeBack yX2_takeBack ∈ TB := tb_at 398 (by decide +kernel) rfl
set_option maxRecDepth 100000 in
theorem q399 : Cond.code yX2_takeBack cX2_takeBack 2 (some .int) ∈ TB := tb_at 399 rfl rfl
theorem q400 : Cond.methodLink RX2 129 yX0_stands ∈ TB := tb_at 400 (by decide +kernel) rfl
theorem q401 : Cond.instanceMethod yX0_stands ∈ TB := tb_at 401 (by decide +kernel) rfl
theorem q402 : Cond.selects RX0 yX0_stands yX0_stands ∈ TB := tb_at 402 (by decide +kernel) rfl
set_option maxRecDepth 100000 in
theorem q403 : Cond.code yX0_stands cX0_stands 2 (some .boolean) ∈ TB := tb_at 403 rfl rfl
theorem q404 : Cond.methodLink RL 44 yX4_settle ∈ TB := tb_at 404 (by decide +kernel) rfl
theorem q405 : Cond.instanceMethod yX4_settle ∈ TB := tb_at 405 (by decide +kernel) rfl
theorem q406 : Cond.selects RX4 yX4_settle yX4_settle ∈ TB := tb_at 406 (by decide +kernel) rfl
set_option maxRecDepth 100000 in
theorem q407 : Cond.code yX4_settle cX4_settle 2 (some .int) ∈ TB := tb_at 407 rfl rfl
theorem q408 : Cond.methodLink RX4 68 yX2_shareOut ∈ TB := tb_at 408 (by decide +kernel) rfl
theorem q409 : Cond.instanceMethod yX2_shareOut ∈ TB := tb_at 409 (by decide +kernel) rfl
theorem q410 : Cond.selects RX2 yX2_shareOut yX2_shareOut ∈ TB := tb_at 410 (by decide +kernel) rfl
set_option maxRecDepth 100000 in
theorem q411 : Cond.code yX2_shareOut cX2_shareOut 6 (some .int) ∈ TB := tb_at 411 rfl rfl
theorem q412 : Cond.methodLink RX2 132 yX0_upheldTo ∈ TB := tb_at 412 (by decide +kernel) rfl
theorem q413 : Cond.instanceMethod yX0_upheldTo ∈ TB := tb_at 413 (by decide +kernel) rfl
theorem q414 : Cond.selects RX0 yX0_upheldTo yX0_upheldTo ∈ TB := tb_at 414 (by decide +kernel) rfl
set_option maxRecDepth 100000 in
theorem q415 : Cond.code yX0_upheldTo cX0_upheldTo 2 (some .int) ∈ TB := tb_at 415 rfl rfl
theorem q416 : Cond.methodLink RX2 135 yX0_openTo ∈ TB := tb_at 416 (by decide +kernel) rfl
theorem q417 : Cond.instanceMethod yX0_openTo ∈ TB := tb_at 417 (by decide +kernel) rfl
theorem q418 : Cond.selects RX0 yX0_openTo yX0_openTo ∈ TB := tb_at 418 (by decide +kernel) rfl
set_option maxRecDepth 100000 in
theorem q419 : Cond.code yX0_openTo cX0_openTo 2 (some .int) ∈ TB := tb_at 419 rfl rfl
theorem q420 : Cond.methodLink RX2 138 yX2_coinsToShare ∈ TB := tb_at 420 (by decide +kernel) rfl
theorem q422 : Cond.instanceMethod yX2_coinsToShare ∈ TB := tb_at 422 (by decide +kernel) rfl
set_option maxRecDepth 100000 in
theorem q423 : Cond.code yX2_coinsToShare cX2_coinsToShare 3 (some .int) ∈ TB := tb_at 423 rfl rfl
theorem q424 : Cond.methodLink RX2 141 yX0_nearest ∈ TB := tb_at 424 (by decide +kernel) rfl
theorem q425 : Cond.instanceMethod yX0_nearest ∈ TB := tb_at 425 (by decide +kernel) rfl
theorem q426 : Cond.selects RX0 yX0_nearest yX0_nearest ∈ TB := tb_at 426 (by decide +kernel) rfl
set_option maxRecDepth 100000 in
theorem q427 : Cond.code yX0_nearest cX0_nearest 2 (some .int) ∈ TB := tb_at 427 rfl rfl
theorem q428 : Cond.methodLink RX0 66 yX0_nearestLine ∈ TB := tb_at 428 (by decide +kernel) rfl
theorem q429 : Cond.instanceMethod yX0_nearestLine ∈ TB := tb_at 429 (by decide +kernel) rfl
theorem q430 : Cond.selects RX0 yX0_nearestLine yX0_nearestLine ∈ TB := tb_at 430 (by decide +kernel) rfl
set_option maxRecDepth 100000 in
theorem q431 : Cond.code yX0_nearestLine cX0_nearestLine 4 (some .int) ∈ TB := tb_at 431 rfl rfl
theorem q432 : Cond.methodLinkNest RX0 62 yX4_holds RX4 ∈ NB := nb_at 432 (by decide +kernel) rfl
theorem q433 : Cond.static yX4_holds ∈ TB := tb_at 433 (by decide +kernel) rfl
set_option maxRecDepth 100000 in
theorem q434 : Cond.code yX4_holds cX4_holds 2 (some .boolean) ∈ TB := tb_at 434 rfl rfl
theorem q435 : Cond.methodLinkNest RX2 144 yX4_holds RX4 ∈ NB := nb_at 435 (by decide +kernel) rfl
theorem q436 : Cond.methodLink RX2 148 yX2_part ∈ TB := tb_at 436 (by decide +kernel) rfl
theorem q437 : Cond.static yX2_part ∈ TB := tb_at 437 (by decide +kernel) rfl
set_option maxRecDepth 100000 in
theorem q438 : Cond.code yX2_part cX2_part 5 (some .int) ∈ TB := tb_at 438 rfl rfl
theorem q439 : Cond.methodLink RX2 152 yX2_settleClaim ∈ TB := tb_at 439 (by decide +kernel) rfl
theorem q441 : Cond.instanceMethod yX2_settleClaim ∈ TB := tb_at 441 (by decide +kernel) rfl
set_option maxRecDepth 100000 in
theorem q442 : Cond.code yX2_settleClaim cX2_settleClaim 4 none ∈ TB := tb_at 442 rfl rfl
theorem q443 : Cond.methodLink RX2 159 yX2_purse ∈ TB := tb_at 443 (by decide +kernel) rfl
theorem q445 : Cond.instanceMethod yX2_purse ∈ TB := tb_at 445 (by decide +kernel) rfl
set_option maxRecDepth 100000 in
theorem q446 : Cond.code yX2_purse cX2_purse 2 (some .int) ∈ TB := tb_at 446 rfl rfl
theorem q447 : Cond.methodLinkNest RX2 194 yX4_sum RX4 ∈ NB := nb_at 447 (by decide +kernel) rfl
theorem q448 : Cond.static yX4_sum ∈ TB := tb_at 448 (by decide +kernel) rfl
set_option maxRecDepth 100000 in
theorem q449 : Cond.code yX4_sum cX4_sum 4 (some .int) ∈ TB := tb_at 449 rfl rfl
theorem q450 : Cond.methodLink RX4 161 yX4_holds ∈ TB := tb_at 450 (by decide +kernel) rfl
theorem q451 : Cond.methodLink RX2 156 yX2_leaveOffice ∈ TB := tb_at 451 (by decide +kernel) rfl
theorem q453 : Cond.instanceMethod yX2_leaveOffice ∈ TB := tb_at 453 (by decide +kernel) rfl
set_option maxRecDepth 100000 in
theorem q454 : Cond.code yX2_leaveOffice cX2_leaveOffice 3 none ∈ TB := tb_at 454 rfl rfl
theorem q455 : Cond.methodLink RL 48 yX4_pass ∈ TB := tb_at 455 (by decide +kernel) rfl
theorem q456 : Cond.instanceMethod yX4_pass ∈ TB := tb_at 456 (by decide +kernel) rfl
theorem q457 : Cond.selects RX4 yX4_pass yX4_pass ∈ TB := tb_at 457 (by decide +kernel) rfl
set_option maxRecDepth 100000 in
theorem q458 : Cond.code yX4_pass cX4_pass 2 (some .int) ∈ TB := tb_at 458 rfl rfl
theorem q459 : Cond.methodLink RX4 71 yX2_passDays ∈ TB := tb_at 459 (by decide +kernel) rfl
theorem q460 : Cond.instanceMethod yX2_passDays ∈ TB := tb_at 460 (by decide +kernel) rfl
theorem q461 : Cond.selects RX2 yX2_passDays yX2_passDays ∈ TB := tb_at 461 (by decide +kernel) rfl
set_option maxRecDepth 100000 in
theorem q462 : Cond.code yX2_passDays cX2_passDays 4 (some .int) ∈ TB := tb_at 462 rfl rfl
theorem q463 : Cond.methodLink RX2 165 yX2_passDay ∈ TB := tb_at 463 (by decide +kernel) rfl
theorem q465 : Cond.instanceMethod yX2_passDay ∈ TB := tb_at 465 (by decide +kernel) rfl
set_option maxRecDepth 100000 in
theorem q466 : Cond.code yX2_passDay cX2_passDay 4 (some .int) ∈ TB := tb_at 466 rfl rfl
theorem q467 : Cond.methodLink RX2 169 yX0_waitOneDay ∈ TB := tb_at 467 (by decide +kernel) rfl
theorem q468 : Cond.instanceMethod yX0_waitOneDay ∈ TB := tb_at 468 (by decide +kernel) rfl
theorem q469 : Cond.selects RX0 yX0_waitOneDay yX0_waitOneDay ∈ TB := tb_at 469 (by decide +kernel) rfl
set_option maxRecDepth 100000 in
theorem q470 : Cond.code yX0_waitOneDay cX0_waitOneDay 4 (some .int) ∈ TB := tb_at 470 rfl rfl
theorem q471 : Cond.methodLink RX0 69 yX0_isOpen ∈ TB := tb_at 471 (by decide +kernel) rfl
theorem q472 : Cond.methodLink RX0 73 yX0_waitLonger ∈ TB := tb_at 472 (by decide +kernel) rfl
theorem q474 : Cond.instanceMethod yX0_waitLonger ∈ TB := tb_at 474 (by decide +kernel) rfl
set_option maxRecDepth 100000 in
theorem q475 : Cond.code yX0_waitLonger cX0_waitLonger 3 none ∈ TB := tb_at 475 rfl rfl
theorem q476 : Cond.methodLink RX0 77 yX0_stands ∈ TB := tb_at 476 (by decide +kernel) rfl
theorem q477 : Cond.methodLink RX2 172 yX2_countDay ∈ TB := tb_at 477 (by decide +kernel) rfl
theorem q479 : Cond.instanceMethod yX2_countDay ∈ TB := tb_at 479 (by decide +kernel) rfl
set_option maxRecDepth 100000 in
theorem q480 : Cond.code yX2_countDay cX2_countDay 2 (some .int) ∈ TB := tb_at 480 rfl rfl
theorem q481 : Cond.methodLink RL 52 yX4_of ∈ TB := tb_at 481 (by decide +kernel) rfl
theorem q482 : Cond.instanceMethod yX4_of ∈ TB := tb_at 482 (by decide +kernel) rfl
theorem q483 : Cond.selects RX4 yX4_of yX4_of ∈ TB := tb_at 483 (by decide +kernel) rfl
set_option maxRecDepth 100000 in
theorem q484 : Cond.code yX4_of cX4_of 3 (some .int) ∈ TB := tb_at 484 rfl rfl
theorem q485 : Cond.methodLink RX4 74 yX2_aboutLot ∈ TB := tb_at 485 (by decide +kernel) rfl
theorem q486 : Cond.instanceMethod yX2_aboutLot ∈ TB := tb_at 486 (by decide +kernel) rfl
theorem q487 : Cond.selects RX2 yX2_aboutLot yX2_aboutLot ∈ TB := tb_at 487 (by decide +kernel) rfl
set_option maxRecDepth 100000 in
theorem q488 : Cond.code yX2_aboutLot cX2_aboutLot 3 (some .int) ∈ TB := tb_at 488 rfl rfl
theorem q489 : Cond.methodLink RX2 178 yX0_toLot ∈ TB := tb_at 489 (by decide +kernel) rfl
theorem q490 : Cond.methodLink RX2 181 yX0_nearestLine ∈ TB := tb_at 490 (by decide +kernel) rfl
theorem q491 : Cond.methodLink RL 56 yX4_ofClaim ∈ TB := tb_at 491 (by decide +kernel) rfl
theorem q492 : Cond.instanceMethod yX4_ofClaim ∈ TB := tb_at 492 (by decide +kernel) rfl
theorem q493 : Cond.selects RX4 yX4_ofClaim yX4_ofClaim ∈ TB := tb_at 493 (by decide +kernel) rfl
set_option maxRecDepth 100000 in
theorem q494 : Cond.code yX4_ofClaim cX4_ofClaim 3 (some .int) ∈ TB := tb_at 494 rfl rfl
theorem q495 : Cond.methodLink RX4 77 yX2_aboutClaim ∈ TB := tb_at 495 (by decide +kernel) rfl
theorem q496 : Cond.instanceMethod yX2_aboutClaim ∈ TB := tb_at 496 (by decide +kernel) rfl
theorem q497 : Cond.selects RX2 yX2_aboutClaim yX2_aboutClaim ∈ TB := tb_at 497 (by decide +kernel) rfl
set_option maxRecDepth 100000 in
theorem q498 : Cond.code yX2_aboutClaim cX2_aboutClaim 3 (some .int) ∈ TB := tb_at 498 rfl rfl
theorem q499 : Cond.methodLink RL 60 yX4_heir ∈ TB := tb_at 499 (by decide +kernel) rfl
theorem q500 : Cond.instanceMethod yX4_heir ∈ TB := tb_at 500 (by decide +kernel) rfl
theorem q501 : Cond.selects RX4 yX4_heir yX4_heir ∈ TB := tb_at 501 (by decide +kernel) rfl
set_option maxRecDepth 100000 in
theorem q502 : Cond.code yX4_heir cX4_heir 3 (some .int) ∈ TB := tb_at 502 rfl rfl
theorem q503 : Cond.methodLink RX4 80 yX2_aboutHeir ∈ TB := tb_at 503 (by decide +kernel) rfl
theorem q504 : Cond.instanceMethod yX2_aboutHeir ∈ TB := tb_at 504 (by decide +kernel) rfl
theorem q505 : Cond.selects RX2 yX2_aboutHeir yX2_aboutHeir ∈ TB := tb_at 505 (by decide +kernel) rfl
set_option maxRecDepth 100000 in
theorem q506 : Cond.code yX2_aboutHeir cX2_aboutHeir 3 (some .int) ∈ TB := tb_at 506 rfl rfl
theorem q507 : Cond.methodLink RX2 184 yX0_standing ∈ TB := tb_at 507 (by decide +kernel) rfl
theorem q508 : Cond.methodLink RX2 187 yX0_thatBrought ∈ TB := tb_at 508 (by decide +kernel) rfl
theorem q509 : Cond.instanceMethod yX0_thatBrought ∈ TB := tb_at 509 (by decide +kernel) rfl
theorem q510 : Cond.selects RX0 yX0_thatBrought yX0_thatBrought ∈ TB := tb_at 510 (by decide +kernel) rfl
set_option maxRecDepth 100000 in
theorem q511 : Cond.code yX0_thatBrought cX0_thatBrought 1 (some .int) ∈ TB := tb_at 511 rfl rfl
theorem q512 : Cond.methodLink RX0 59 yX0_all ∈ TB := tb_at 512 (by decide +kernel) rfl
theorem q513 : Cond.instanceMethod yX0_all ∈ TB := tb_at 513 (by decide +kernel) rfl
theorem q514 : Cond.selects RX0 yX0_all yX0_all ∈ TB := tb_at 514 (by decide +kernel) rfl
set_option maxRecDepth 100000 in
theorem q515 : Cond.code yX0_all cX0_all 1 (some .int) ∈ TB := tb_at 515 rfl rfl
theorem q516 : Cond.methodLinkNest RX0 41 yX4_firstOnes RX4 ∈ NB := nb_at 516 (by decide +kernel) rfl
theorem q517 : Cond.static yX4_firstOnes ∈ TB := tb_at 517 (by decide +kernel) rfl
set_option maxRecDepth 100000 in
theorem q518 : Cond.code yX4_firstOnes cX4_firstOnes 1 (some .int) ∈ TB := tb_at 518 rfl rfl
theorem q519 : Cond.methodLinkNest RX2 190 yX4_numbersIn RX4 ∈ NB := nb_at 519 (by decide +kernel) rfl
theorem q520 : Cond.static yX4_numbersIn ∈ TB := tb_at 520 (by decide +kernel) rfl
set_option maxRecDepth 100000 in
theorem q521 : Cond.code yX4_numbersIn cX4_numbersIn 4 (some .int) ∈ TB := tb_at 521 rfl rfl
theorem q522 : Cond.methodLink RL 64 yX4_paid ∈ TB := tb_at 522 (by decide +kernel) rfl
theorem q523 : Cond.instanceMethod yX4_paid ∈ TB := tb_at 523 (by decide +kernel) rfl
theorem q524 : Cond.selects RX4 yX4_paid yX4_paid ∈ TB := tb_at 524 (by decide +kernel) rfl
set_option maxRecDepth 100000 in
theorem q525 : Cond.code yX4_paid cX4_paid 2 (some .int) ∈ TB := tb_at 525 rfl rfl
theorem q526 : Cond.methodLink RX4 83 yX2_heirPaid ∈ TB := tb_at 526 (by decide +kernel) rfl
theorem q527 : Cond.instanceMethod yX2_heirPaid ∈ TB := tb_at 527 (by decide +kernel) rfl
theorem q528 : Cond.selects RX2 yX2_heirPaid yX2_heirPaid ∈ TB := tb_at 528 (by decide +kernel) rfl
set_option maxRecDepth 100000 in
theorem q529 : Cond.code yX2_heirPaid cX2_heirPaid 2 (some .int) ∈ TB := tb_at 529 rfl rfl
theorem q530 : Cond.methodLink RL 68 yX4_count ∈ TB := tb_at 530 (by decide +kernel) rfl
theorem q531 : Cond.instanceMethod yX4_count ∈ TB := tb_at 531 (by decide +kernel) rfl
theorem q532 : Cond.selects RX4 yX4_count yX4_count ∈ TB := tb_at 532 (by decide +kernel) rfl
set_option maxRecDepth 100000 in
theorem q533 : Cond.code yX4_count cX4_count 2 (some .int) ∈ TB := tb_at 533 rfl rfl
theorem q534 : Cond.methodLink RX4 89 yX2_number ∈ TB := tb_at 534 (by decide +kernel) rfl
theorem q535 : Cond.instanceMethod yX2_number ∈ TB := tb_at 535 (by decide +kernel) rfl
theorem q536 : Cond.selects RX2 yX2_number yX2_number ∈ TB := tb_at 536 (by decide +kernel) rfl
set_option maxRecDepth 100000 in
theorem q537 : Cond.code yX2_number cX2_number 2 (some .int) ∈ TB := tb_at 537 rfl rfl
theorem q538 : Cond.methodLink RX2 197 yX1_all ∈ TB := tb_at 538 (by decide +kernel) rfl
theorem q539 : Cond.instanceMethod yX1_all ∈ TB := tb_at 539 (by decide +kernel) rfl
theorem q540 : Cond.selects RX1 yX1_all yX1_all ∈ TB := tb_at 540 (by decide +kernel) rfl
set_option maxRecDepth 100000 in
theorem q541 : Cond.code yX1_all cX1_all 1 (some .int) ∈ TB := tb_at 541 rfl rfl
theorem q542 : Cond.methodLinkNest RX1 32 yX4_firstOnes RX4 ∈ NB := nb_at 542 (by decide +kernel) rfl
theorem q543 : Cond.methodLink RX2 200 yX0_all ∈ TB := tb_at 543 (by decide +kernel) rfl
theorem q544 : Cond.methodLink RL 72 yX4_why ∈ TB := tb_at 544 (by decide +kernel) rfl
theorem q545 : Cond.instanceMethod yX4_why ∈ TB := tb_at 545 (by decide +kernel) rfl
theorem q546 : Cond.selects RX4 yX4_why yX4_why ∈ TB := tb_at 546 (by decide +kernel) rfl
set_option maxRecDepth 100000 in
theorem q547 : Cond.code yX4_why cX4_why 2 (some .int) ∈ TB := tb_at 547 rfl rfl
theorem q548 : Cond.methodLink RX4 92 yX2_whyNot ∈ TB := tb_at 548 (by decide +kernel) rfl
theorem q549 : Cond.instanceMethod yX2_whyNot ∈ TB := tb_at 549 (by decide +kernel) rfl
theorem q550 : Cond.selects RX2 yX2_whyNot yX2_whyNot ∈ TB := tb_at 550 (by decide +kernel) rfl
set_option maxRecDepth 100000 in
theorem q551 : Cond.code yX2_whyNot cX2_whyNot 2 (some .int) ∈ TB := tb_at 551 rfl rfl
theorem q552 : Cond.methodLink RL 76 yX4_fallsIn ∈ TB := tb_at 552 (by decide +kernel) rfl
theorem q553 : Cond.instanceMethod yX4_fallsIn ∈ TB := tb_at 553 (by decide +kernel) rfl
theorem q554 : Cond.selects RX4 yX4_fallsIn yX4_fallsIn ∈ TB := tb_at 554 (by decide +kernel) rfl
set_option maxRecDepth 100000 in
theorem q555 : Cond.code yX4_fallsIn cX4_fallsIn 2 (some .int) ∈ TB := tb_at 555 rfl rfl
theorem q556 : Cond.methodLink RX4 95 yX2_daysToFall ∈ TB := tb_at 556 (by decide +kernel) rfl
theorem q557 : Cond.instanceMethod yX2_daysToFall ∈ TB := tb_at 557 (by decide +kernel) rfl
theorem q558 : Cond.selects RX2 yX2_daysToFall yX2_daysToFall ∈ TB := tb_at 558 (by decide +kernel) rfl
set_option maxRecDepth 100000 in
theorem q559 : Cond.code yX2_daysToFall cX2_daysToFall 2 (some .int) ∈ TB := tb_at 559 rfl rfl
theorem q560 : Cond.methodLink RX2 201 yX2_idleDays ∈ TB := tb_at 560 (by decide +kernel) rfl
theorem q562 : Cond.instanceMethod yX2_idleDays ∈ TB := tb_at 562 (by decide +kernel) rfl
set_option maxRecDepth 100000 in
theorem q563 : Cond.code yX2_idleDays cX2_idleDays 5 (some .int) ∈ TB := tb_at 563 rfl rfl
theorem q564 : Cond.methodLink RX2 207 yX2_daysToLapse ∈ TB := tb_at 564 (by decide +kernel) rfl
theorem q566 : Cond.instanceMethod yX2_daysToLapse ∈ TB := tb_at 566 (by decide +kernel) rfl
set_option maxRecDepth 100000 in
theorem q567 : Cond.code yX2_daysToLapse cX2_daysToLapse 2 (some .int) ∈ TB := tb_at 567 rfl rfl
theorem q568 : Cond.methodLink RX2 204 Lib.Math.max.name ∈ TB := tb_at 568 (by decide +kernel) rfl
theorem q569 : Cond.static Lib.Math.max.name ∈ TB := tb_at 569 (by decide +kernel) rfl
set_option maxRecDepth 100000 in
theorem q570 : Cond.code Lib.Math.max.name Lib.Math.max.code 2 (some .int) ∈ TB := tb_at 570 rfl rfl
theorem q571 : Cond.methodLink RL 80 yX4_share ∈ TB := tb_at 571 (by decide +kernel) rfl
theorem q572 : Cond.instanceMethod yX4_share ∈ TB := tb_at 572 (by decide +kernel) rfl
theorem q573 : Cond.selects RX4 yX4_share yX4_share ∈ TB := tb_at 573 (by decide +kernel) rfl
set_option maxRecDepth 100000 in
theorem q574 : Cond.code yX4_share cX4_share 4 (some .int) ∈ TB := tb_at 574 rfl rfl
theorem q575 : Cond.methodLink RX4 98 yX2_wouldGet ∈ TB := tb_at 575 (by decide +kernel) rfl
theorem q576 : Cond.instanceMethod yX2_wouldGet ∈ TB := tb_at 576 (by decide +kernel) rfl
theorem q577 : Cond.selects RX2 yX2_wouldGet yX2_wouldGet ∈ TB := tb_at 577 (by decide +kernel) rfl
set_option maxRecDepth 100000 in
theorem q578 : Cond.code yX2_wouldGet cX2_wouldGet 5 (some .int) ∈ TB := tb_at 578 rfl rfl
theorem q579 : Cond.methodLink RL 84 yX4_nextFall ∈ TB := tb_at 579 (by decide +kernel) rfl
theorem q580 : Cond.instanceMethod yX4_nextFall ∈ TB := tb_at 580 (by decide +kernel) rfl
theorem q581 : Cond.selects RX4 yX4_nextFall yX4_nextFall ∈ TB := tb_at 581 (by decide +kernel) rfl
set_option maxRecDepth 100000 in
theorem q582 : Cond.code yX4_nextFall cX4_nextFall 2 (some .int) ∈ TB := tb_at 582 rfl rfl
theorem q583 : Cond.methodLink RX4 101 yX2_firstFall ∈ TB := tb_at 583 (by decide +kernel) rfl
theorem q584 : Cond.instanceMethod yX2_firstFall ∈ TB := tb_at 584 (by decide +kernel) rfl
theorem q585 : Cond.selects RX2 yX2_firstFall yX2_firstFall ∈ TB := tb_at 585 (by decide +kernel) rfl
set_option maxRecDepth 100000 in
theorem q586 : Cond.code yX2_firstFall cX2_firstFall 6 (some .int) ∈ TB := tb_at 586 rfl rfl
theorem q587 : Cond.methodLink RX2 210 yX2_daysToFall ∈ TB := tb_at 587 (by decide +kernel) rfl
theorem q588 : Cond.methodLink RL 88 yX4_nextLapse ∈ TB := tb_at 588 (by decide +kernel) rfl
theorem q589 : Cond.instanceMethod yX4_nextLapse ∈ TB := tb_at 589 (by decide +kernel) rfl
theorem q590 : Cond.selects RX4 yX4_nextLapse yX4_nextLapse ∈ TB := tb_at 590 (by decide +kernel) rfl
set_option maxRecDepth 100000 in
theorem q591 : Cond.code yX4_nextLapse cX4_nextLapse 2 (some .int) ∈ TB := tb_at 591 rfl rfl
theorem q592 : Cond.methodLink RX4 104 yX2_firstLapse ∈ TB := tb_at 592 (by decide +kernel) rfl
theorem q593 : Cond.instanceMethod yX2_firstLapse ∈ TB := tb_at 593 (by decide +kernel) rfl
theorem q594 : Cond.selects RX2 yX2_firstLapse yX2_firstLapse ∈ TB := tb_at 594 (by decide +kernel) rfl
set_option maxRecDepth 100000 in
theorem q595 : Cond.code yX2_firstLapse cX2_firstLapse 4 (some .int) ∈ TB := tb_at 595 rfl rfl
theorem q596 : Cond.methodLink RX2 213 yX2_lapsesAhead ∈ TB := tb_at 596 (by decide +kernel) rfl
theorem q598 : Cond.instanceMethod yX2_lapsesAhead ∈ TB := tb_at 598 (by decide +kernel) rfl
set_option maxRecDepth 100000 in
theorem q599 : Cond.code yX2_lapsesAhead cX2_lapsesAhead 5 (some .boolean) ∈ TB := tb_at 599 rfl rfl
theorem q600 : Cond.methodLink RL 94 yX4_put ∈ TB := tb_at 600 (by decide +kernel) rfl
theorem q601 : Cond.instanceMethod yX4_put ∈ TB := tb_at 601 (by decide +kernel) rfl
theorem q602 : Cond.selects RX4 yX4_put yX4_put ∈ TB := tb_at 602 (by decide +kernel) rfl
set_option maxRecDepth 100000 in
theorem q603 : Cond.code yX4_put cX4_put 3 (some .int) ∈ TB := tb_at 603 rfl rfl
theorem q604 : Cond.methodLink RX4 107 yX3_append ∈ TB := tb_at 604 (by decide +kernel) rfl
theorem q605 : Cond.instanceMethod yX3_append ∈ TB := tb_at 605 (by decide +kernel) rfl
theorem q606 : Cond.selects RX3 yX3_append yX3_append ∈ TB := tb_at 606 (by decide +kernel) rfl
set_option maxRecDepth 100000 in
theorem q607 : Cond.code yX3_append cX3_append 5 (some .int) ∈ TB := tb_at 607 rfl rfl
theorem q608 : Cond.methodLink RX3 35 yX3_charactersIn ∈ TB := tb_at 608 (by decide +kernel) rfl
theorem q609 : Cond.static yX3_charactersIn ∈ TB := tb_at 609 (by decide +kernel) rfl
set_option maxRecDepth 100000 in
theorem q610 : Cond.code yX3_charactersIn cX3_charactersIn 4 (some .int) ∈ TB := tb_at 610 rfl rfl
theorem q611 : Cond.methodLink RX3 39 yX3_codeAt ∈ TB := tb_at 611 (by decide +kernel) rfl
theorem q612 : Cond.static yX3_codeAt ∈ TB := tb_at 612 (by decide +kernel) rfl
set_option maxRecDepth 100000 in
theorem q613 : Cond.code yX3_codeAt cX3_codeAt 3 (some .int) ∈ TB := tb_at 613 rfl rfl
theorem q614 : Cond.methodLink RL 99 yX4_wipe ∈ TB := tb_at 614 (by decide +kernel) rfl
theorem q615 : Cond.instanceMethod yX4_wipe ∈ TB := tb_at 615 (by decide +kernel) rfl
theorem q616 : Cond.selects RX4 yX4_wipe yX4_wipe ∈ TB := tb_at 616 (by decide +kernel) rfl
set_option maxRecDepth 100000 in
theorem q617 : Cond.code yX4_wipe cX4_wipe 1 (some .int) ∈ TB := tb_at 617 rfl rfl
theorem q618 : Cond.methodLink RX4 111 yX3_empty ∈ TB := tb_at 618 (by decide +kernel) rfl
theorem q619 : Cond.instanceMethod yX3_empty ∈ TB := tb_at 619 (by decide +kernel) rfl
theorem q620 : Cond.selects RX3 yX3_empty yX3_empty ∈ TB := tb_at 620 (by decide +kernel) rfl
set_option maxRecDepth 100000 in
theorem q621 : Cond.code yX3_empty cX3_empty 2 (some .int) ∈ TB := tb_at 621 rfl rfl
theorem q622 : Cond.methodLink RL 104 yX4_fault ∈ TB := tb_at 622 (by decide +kernel) rfl
theorem q623 : Cond.instanceMethod yX4_fault ∈ TB := tb_at 623 (by decide +kernel) rfl
theorem q624 : Cond.selects RX4 yX4_fault yX4_fault ∈ TB := tb_at 624 (by decide +kernel) rfl
set_option maxRecDepth 100000 in
theorem q625 : Cond.code yX4_fault cX4_fault 1 (some .int) ∈ TB := tb_at 625 rfl rfl
theorem q626 : Cond.methodLink RX4 115 yX3_firstFault ∈ TB := tb_at 626 (by decide +kernel) rfl
theorem q627 : Cond.instanceMethod yX3_firstFault ∈ TB := tb_at 627 (by decide +kernel) rfl
theorem q628 : Cond.selects RX3 yX3_firstFault yX3_firstFault ∈ TB := tb_at 628 (by decide +kernel) rfl
set_option maxRecDepth 100000 in
theorem q629 : Cond.code yX3_firstFault cX3_firstFault 3 (some .int) ∈ TB := tb_at 629 rfl rfl
theorem q630 : Cond.methodLink RX3 43 yX3_readOrder ∈ TB := tb_at 630 (by decide +kernel) rfl
theorem q631 : Cond.instanceMethod yX3_readOrder ∈ TB := tb_at 631 (by decide +kernel) rfl
theorem q632 : Cond.selects RX3 yX3_readOrder yX3_readOrder ∈ TB := tb_at 632 (by decide +kernel) rfl
set_option maxRecDepth 100000 in
theorem q633 : Cond.code yX3_readOrder cX3_readOrder 1 (some .boolean) ∈ TB := tb_at 633 rfl rfl
theorem q634 : Cond.methodLink RX3 51 yX3_readFirst ∈ TB := tb_at 634 (by decide +kernel) rfl
theorem q636 : Cond.instanceMethod yX3_readFirst ∈ TB := tb_at 636 (by decide +kernel) rfl
set_option maxRecDepth 100000 in
theorem q637 : Cond.code yX3_readFirst cX3_readFirst 1 (some .boolean) ∈ TB := tb_at 637 rfl rfl
theorem q638 : Cond.methodLink RX3 60 yX3_readNumber ∈ TB := tb_at 638 (by decide +kernel) rfl
theorem q640 : Cond.instanceMethod yX3_readNumber ∈ TB := tb_at 640 (by decide +kernel) rfl
set_option maxRecDepth 100000 in
theorem q641 : Cond.code yX3_readNumber cX3_readNumber 4 (some .int) ∈ TB := tb_at 641 rfl rfl
theorem q642 : Cond.methodLink RX3 64 yX3_readDigit ∈ TB := tb_at 642 (by decide +kernel) rfl
theorem q644 : Cond.instanceMethod yX3_readDigit ∈ TB := tb_at 644 (by decide +kernel) rfl
set_option maxRecDepth 100000 in
theorem q645 : Cond.code yX3_readDigit cX3_readDigit 2 (some .int) ∈ TB := tb_at 645 rfl rfl
theorem q646 : Cond.methodLink RX3 47 yX3_readSign ∈ TB := tb_at 646 (by decide +kernel) rfl
theorem q647 : Cond.instanceMethod yX3_readSign ∈ TB := tb_at 647 (by decide +kernel) rfl
theorem q648 : Cond.selects RX3 yX3_readSign yX3_readSign ∈ TB := tb_at 648 (by decide +kernel) rfl
set_option maxRecDepth 100000 in
theorem q649 : Cond.code yX3_readSign cX3_readSign 2 (some .boolean) ∈ TB := tb_at 649 rfl rfl
theorem q650 : Cond.methodLink RX3 54 yX3_readSecond ∈ TB := tb_at 650 (by decide +kernel) rfl
theorem q652 : Cond.instanceMethod yX3_readSecond ∈ TB := tb_at 652 (by decide +kernel) rfl
set_option maxRecDepth 100000 in
theorem q653 : Cond.code yX3_readSecond cX3_readSecond 1 (some .boolean) ∈ TB := tb_at 653 rfl rfl
theorem q654 : Cond.methodLink RX3 57 yX3_readThird ∈ TB := tb_at 654 (by decide +kernel) rfl
theorem q656 : Cond.instanceMethod yX3_readThird ∈ TB := tb_at 656 (by decide +kernel) rfl
set_option maxRecDepth 100000 in
theorem q657 : Cond.code yX3_readThird cX3_readThird 1 (some .boolean) ∈ TB := tb_at 657 rfl rfl
theorem q658 : Cond.methodLink RL 108 yX4_carryOut ∈ TB := tb_at 658 (by decide +kernel) rfl
theorem q659 : Cond.instanceMethod yX4_carryOut ∈ TB := tb_at 659 (by decide +kernel) rfl
theorem q660 : Cond.selects RX4 yX4_carryOut yX4_carryOut ∈ TB := tb_at 660 (by decide +kernel) rfl
set_option maxRecDepth 100000 in
theorem q661 : Cond.code yX4_carryOut cX4_carryOut 2 (some .int) ∈ TB := tb_at 661 rfl rfl
theorem q662 : Cond.methodLink RX4 121 yX3_readOrder ∈ TB := tb_at 662 (by decide +kernel) rfl
theorem q663 : Cond.methodLink RX4 125 yX4_carryOutOrder ∈ TB := tb_at 663 (by decide +kernel) rfl
theorem q665 : Cond.instanceMethod yX4_carryOutOrder ∈ TB := tb_at 665 (by decide +kernel) rfl
set_option maxRecDepth 100000 in
theorem q666 : Cond.code yX4_carryOutOrder cX4_carryOutOrder 1 (some .int) ∈ TB := tb_at 666 rfl rfl
theorem q667 : Cond.methodLink RX4 128 yX3_readSign ∈ TB := tb_at 667 (by decide +kernel) rfl
theorem q668 : Cond.methodLink RL 112 yX4_undo ∈ TB := tb_at 668 (by decide +kernel) rfl
theorem q669 : Cond.instanceMethod yX4_undo ∈ TB := tb_at 669 (by decide +kernel) rfl
theorem q670 : Cond.selects RX4 yX4_undo yX4_undo ∈ TB := tb_at 670 (by decide +kernel) rfl
set_option maxRecDepth 100000 in
theorem q671 : Cond.code yX4_undo cX4_undo 1 (some .int) ∈ TB := tb_at 671 rfl rfl
theorem q672 : Cond.methodLink RL 116 yX4_save ∈ TB := tb_at 672 (by decide +kernel) rfl
theorem q673 : Cond.instanceMethod yX4_save ∈ TB := tb_at 673 (by decide +kernel) rfl
theorem q674 : Cond.selects RX4 yX4_save yX4_save ∈ TB := tb_at 674 (by decide +kernel) rfl
set_option maxRecDepth 100000 in
theorem q675 : Cond.code yX4_save cX4_save 2 (some .int) ∈ TB := tb_at 675 rfl rfl
theorem q676 : Cond.methodLink RL 120 yX4_restore ∈ TB := tb_at 676 (by decide +kernel) rfl
theorem q677 : Cond.instanceMethod yX4_restore ∈ TB := tb_at 677 (by decide +kernel) rfl
theorem q678 : Cond.selects RX4 yX4_restore yX4_restore ∈ TB := tb_at 678 (by decide +kernel) rfl
set_option maxRecDepth 100000 in
theorem q679 : Cond.code yX4_restore cX4_restore 2 (some .int) ∈ TB := tb_at 679 rfl rfl
theorem q680 : Cond.classLink RL 10 RX5 ∈ TB := tb_at 680 (by decide +kernel) rfl
theorem q681 : Cond.instantiable RX5 11 ∈ TB := tb_at 681 (by decide +kernel) rfl
theorem q682 : Cond.methodLink RL 12 yX5_init ∈ TB := tb_at 682 (by decide +kernel) rfl
theorem q683 : Cond.instanceMethod yX5_init ∈ TB := tb_at 683 (by decide +kernel) rfl
set_option maxRecDepth 100000 in
theorem q684 : Cond.code yX5_init cX5_init 1 none ∈ TB := tb_at 684 rfl rfl
theorem q685 : Cond.methodLink RX5 1 Lib.objectInit ∈ TB := tb_at 685 (by decide +kernel) rfl
theorem q686 : Cond.fieldLink RX5 7 "EscheatLotsModel" "z" "[I" ∈ TB := tb_at 686 (by decide +kernel) rfl
theorem q687 : Cond.fieldLink RX5 13 "EscheatLotsModel" "spare" "[I" ∈ TB := tb_at 687 (by decide +kernel) rfl
theorem q688 : Cond.fieldLink RX5 16 "EscheatLotsModel" "past" "[I" ∈ TB := tb_at 688 (by decide +kernel) rfl
theorem q689 : Cond.fieldLink RX5 36 "EscheatLotsModel" "states" "I" ∈ TB := tb_at 689 (by decide +kernel) rfl
theorem q690 : Cond.fieldLink RX5 19 "EscheatLotsModel" "slots" "[I" ∈ TB := tb_at 690 (by decide +kernel) rfl
theorem q691 : Cond.fieldLink RX5 22 "EscheatLotsModel" "isSaved" "[Z" ∈ TB := tb_at 691 (by decide +kernel) rfl
theorem q692 : Cond.fieldLink RX5 26 "EscheatLotsModel" "pad" "[I" ∈ TB := tb_at 692 (by decide +kernel) rfl
theorem q693 : Cond.fieldLink RX5 197 "EscheatLotsModel" "typed" "I" ∈ TB := tb_at 693 (by decide +kernel) rfl
theorem q694 : Cond.fieldLink RX5 211 "EscheatLotsModel" "spot" "I" ∈ TB := tb_at 694 (by decide +kernel) rfl
theorem q695 : Cond.fieldLink RX5 29 "EscheatLotsModel" "told" "[I" ∈ TB := tb_at 695 (by decide +kernel) rfl
theorem q696 : Cond.fieldLink RX5 226 "EscheatLotsModel" "toldMany" "I" ∈ TB := tb_at 696 (by decide +kernel) rfl
theorem q697 : Cond.laysFinal RX5 "EscheatLotsModel" "z" "[I" ∈ TB := tb_at 697 (by decide +kernel) rfl
theorem q699 : Cond.laysFinal RX5 "EscheatLotsModel" "spare" "[I" ∈ TB := tb_at 699 (by decide +kernel) rfl
theorem q701 : Cond.laysFinal RX5 "EscheatLotsModel" "past" "[I" ∈ TB := tb_at 701 (by decide +kernel) rfl
theorem q703 : Cond.lays RX5 "EscheatLotsModel" "states" "I" ∈ TB := tb_at 703 (by decide +kernel) rfl
theorem q705 : Cond.laysFinal RX5 "EscheatLotsModel" "slots" "[I" ∈ TB := tb_at 705 (by decide +kernel) rfl
theorem q707 : Cond.laysFinal RX5 "EscheatLotsModel" "isSaved" "[Z" ∈ TB := tb_at 707 (by decide +kernel) rfl
theorem q709 : Cond.laysFinal RX5 "EscheatLotsModel" "pad" "[I" ∈ TB := tb_at 709 (by decide +kernel) rfl
theorem q711 : Cond.lays RX5 "EscheatLotsModel" "typed" "I" ∈ TB := tb_at 711 (by decide +kernel) rfl
theorem q713 : Cond.lays RX5 "EscheatLotsModel" "spot" "I" ∈ TB := tb_at 713 (by decide +kernel) rfl
theorem q715 : Cond.laysFinal RX5 "EscheatLotsModel" "told" "[I" ∈ TB := tb_at 715 (by decide +kernel) rfl
theorem q717 : Cond.lays RX5 "EscheatLotsModel" "toldMany" "I" ∈ TB := tb_at 717 (by decide +kernel) rfl
theorem q720 : Cond.methodLink RL 115 yX5_undo ∈ TB := tb_at 720 (by decide +kernel) rfl
theorem q721 : Cond.instanceMethod yX5_undo ∈ TB := tb_at 721 (by decide +kernel) rfl
theorem q722 : Cond.selects RX5 yX5_undo yX5_undo ∈ TB := tb_at 722 (by decide +kernel) rfl
set_option maxRecDepth 100000 in
theorem q723 : Cond.code yX5_undo cX5_undo 1 (some .int) ∈ TB := tb_at 723 rfl rfl
theorem q724 : Cond.methodLink RX5 40 yX5_copyState ∈ TB := tb_at 724 (by decide +kernel) rfl
theorem q725 : Cond.static yX5_copyState ∈ TB := tb_at 725 (by decide +kernel) rfl
set_option maxRecDepth 100000 in
theorem q726 : Cond.code yX5_copyState cX5_copyState 5 none ∈ TB := tb_at 726 rfl rfl
theorem q727 : Cond.methodLink RL 119 yX5_save ∈ TB := tb_at 727 (by decide +kernel) rfl
theorem q728 : Cond.instanceMethod yX5_save ∈ TB := tb_at 728 (by decide +kernel) rfl
theorem q729 : Cond.selects RX5 yX5_save yX5_save ∈ TB := tb_at 729 (by decide +kernel) rfl
set_option maxRecDepth 100000 in
theorem q730 : Cond.code yX5_save cX5_save 2 (some .int) ∈ TB := tb_at 730 rfl rfl
theorem q731 : Cond.methodLink RX5 32 yX5_in ∈ TB := tb_at 731 (by decide +kernel) rfl
theorem q732 : Cond.static yX5_in ∈ TB := tb_at 732 (by decide +kernel) rfl
set_option maxRecDepth 100000 in
theorem q733 : Cond.code yX5_in cX5_in 3 (some .boolean) ∈ TB := tb_at 733 rfl rfl
theorem q734 : Cond.methodLink RL 123 yX5_restore ∈ TB := tb_at 734 (by decide +kernel) rfl
theorem q735 : Cond.instanceMethod yX5_restore ∈ TB := tb_at 735 (by decide +kernel) rfl
theorem q736 : Cond.selects RX5 yX5_restore yX5_restore ∈ TB := tb_at 736 (by decide +kernel) rfl
set_option maxRecDepth 100000 in
theorem q737 : Cond.code yX5_restore cX5_restore 2 (some .int) ∈ TB := tb_at 737 rfl rfl
theorem q738 : Cond.methodLink RX5 44 yX5_record ∈ TB := tb_at 738 (by decide +kernel) rfl
theorem q740 : Cond.instanceMethod yX5_record ∈ TB := tb_at 740 (by decide +kernel) rfl
set_option maxRecDepth 100000 in
theorem q741 : Cond.code yX5_record cX5_record 2 none ∈ TB := tb_at 741 rfl rfl
theorem q742 : Cond.methodLink RL 17 yX5_set ∈ TB := tb_at 742 (by decide +kernel) rfl
theorem q743 : Cond.instanceMethod yX5_set ∈ TB := tb_at 743 (by decide +kernel) rfl
theorem q744 : Cond.selects RX5 yX5_set yX5_set ∈ TB := tb_at 744 (by decide +kernel) rfl
set_option maxRecDepth 100000 in
theorem q745 : Cond.code yX5_set cX5_set 4 (some .int) ∈ TB := tb_at 745 rfl rfl
theorem q746 : Cond.methodLink RX5 64 yX5_isValue ∈ TB := tb_at 746 (by decide +kernel) rfl
theorem q747 : Cond.static yX5_isValue ∈ TB := tb_at 747 (by decide +kernel) rfl
set_option maxRecDepth 100000 in
theorem q748 : Cond.code yX5_isValue cX5_isValue 2 (some .boolean) ∈ TB := tb_at 748 rfl rfl
theorem q749 : Cond.methodLink RL 22 yX5_lot ∈ TB := tb_at 749 (by decide +kernel) rfl
theorem q750 : Cond.instanceMethod yX5_lot ∈ TB := tb_at 750 (by decide +kernel) rfl
theorem q751 : Cond.selects RX5 yX5_lot yX5_lot ∈ TB := tb_at 751 (by decide +kernel) rfl
set_option maxRecDepth 100000 in
theorem q752 : Cond.code yX5_lot cX5_lot 3 (some .int) ∈ TB := tb_at 752 rfl rfl
theorem q753 : Cond.methodLink RX5 72 yX5_whyNotLot ∈ TB := tb_at 753 (by decide +kernel) rfl
theorem q755 : Cond.instanceMethod yX5_whyNotLot ∈ TB := tb_at 755 (by decide +kernel) rfl
set_option maxRecDepth 100000 in
theorem q756 : Cond.code yX5_whyNotLot cX5_whyNotLot 2 (some .int) ∈ TB := tb_at 756 rfl rfl
theorem q757 : Cond.methodLink RX5 75 yX5_lotNow ∈ TB := tb_at 757 (by decide +kernel) rfl
theorem q759 : Cond.instanceMethod yX5_lotNow ∈ TB := tb_at 759 (by decide +kernel) rfl
set_option maxRecDepth 100000 in
theorem q760 : Cond.code yX5_lotNow cX5_lotNow 3 (some .int) ∈ TB := tb_at 760 rfl rfl
theorem q761 : Cond.methodLink RX5 68 yX5_layLot ∈ TB := tb_at 761 (by decide +kernel) rfl
theorem q763 : Cond.instanceMethod yX5_layLot ∈ TB := tb_at 763 (by decide +kernel) rfl
set_option maxRecDepth 100000 in
theorem q764 : Cond.code yX5_layLot cX5_layLot 4 none ∈ TB := tb_at 764 rfl rfl
theorem q765 : Cond.methodLink RL 26 yX5_notice ∈ TB := tb_at 765 (by decide +kernel) rfl
theorem q766 : Cond.instanceMethod yX5_notice ∈ TB := tb_at 766 (by decide +kernel) rfl
theorem q767 : Cond.selects RX5 yX5_notice yX5_notice ∈ TB := tb_at 767 (by decide +kernel) rfl
set_option maxRecDepth 100000 in
theorem q768 : Cond.code yX5_notice cX5_notice 3 (some .int) ∈ TB := tb_at 768 rfl rfl
theorem q769 : Cond.methodLink RX5 85 yX5_whyNotNotice ∈ TB := tb_at 769 (by decide +kernel) rfl
theorem q771 : Cond.instanceMethod yX5_whyNotNotice ∈ TB := tb_at 771 (by decide +kernel) rfl
set_option maxRecDepth 100000 in
theorem q772 : Cond.code yX5_whyNotNotice cX5_whyNotNotice 2 (some .int) ∈ TB := tb_at 772 rfl rfl
theorem q773 : Cond.methodLink RX5 78 yX5_isLot ∈ TB := tb_at 773 (by decide +kernel) rfl
theorem q775 : Cond.instanceMethod yX5_isLot ∈ TB := tb_at 775 (by decide +kernel) rfl
set_option maxRecDepth 100000 in
theorem q776 : Cond.code yX5_isLot cX5_isLot 2 (some .boolean) ∈ TB := tb_at 776 rfl rfl
theorem q777 : Cond.methodLink RX5 58 yX5_lotOf ∈ TB := tb_at 777 (by decide +kernel) rfl
theorem q779 : Cond.instanceMethod yX5_lotOf ∈ TB := tb_at 779 (by decide +kernel) rfl
set_option maxRecDepth 100000 in
theorem q780 : Cond.code yX5_lotOf cX5_lotOf 3 (some .int) ∈ TB := tb_at 780 rfl rfl
theorem q781 : Cond.methodLink RX5 88 yX5_noticeNow ∈ TB := tb_at 781 (by decide +kernel) rfl
theorem q783 : Cond.instanceMethod yX5_noticeNow ∈ TB := tb_at 783 (by decide +kernel) rfl
set_option maxRecDepth 100000 in
theorem q784 : Cond.code yX5_noticeNow cX5_noticeNow 2 (some .int) ∈ TB := tb_at 784 rfl rfl
theorem q785 : Cond.methodLink RX5 82 yX5_lotsThatAre ∈ TB := tb_at 785 (by decide +kernel) rfl
theorem q787 : Cond.instanceMethod yX5_lotsThatAre ∈ TB := tb_at 787 (by decide +kernel) rfl
set_option maxRecDepth 100000 in
theorem q788 : Cond.code yX5_lotsThatAre cX5_lotsThatAre 4 (some .int) ∈ TB := tb_at 788 rfl rfl
theorem q789 : Cond.methodLink RX5 61 yX5_size ∈ TB := tb_at 789 (by decide +kernel) rfl
theorem q790 : Cond.static yX5_size ∈ TB := tb_at 790 (by decide +kernel) rfl
set_option maxRecDepth 100000 in
theorem q791 : Cond.code yX5_size cX5_size 3 (some .int) ∈ TB := tb_at 791 rfl rfl
theorem q792 : Cond.methodLink RL 31 yX5_claim ∈ TB := tb_at 792 (by decide +kernel) rfl
theorem q793 : Cond.instanceMethod yX5_claim ∈ TB := tb_at 793 (by decide +kernel) rfl
theorem q794 : Cond.selects RX5 yX5_claim yX5_claim ∈ TB := tb_at 794 (by decide +kernel) rfl
set_option maxRecDepth 100000 in
theorem q795 : Cond.code yX5_claim cX5_claim 5 (some .int) ∈ TB := tb_at 795 rfl rfl
theorem q796 : Cond.methodLink RX5 106 yX5_whyNotClaim ∈ TB := tb_at 796 (by decide +kernel) rfl
theorem q798 : Cond.instanceMethod yX5_whyNotClaim ∈ TB := tb_at 798 (by decide +kernel) rfl
set_option maxRecDepth 100000 in
theorem q799 : Cond.code yX5_whyNotClaim cX5_whyNotClaim 5 (some .int) ∈ TB := tb_at 799 rfl rfl
theorem q800 : Cond.methodLink RX5 94 yX5_isHeir ∈ TB := tb_at 800 (by decide +kernel) rfl
theorem q801 : Cond.static yX5_isHeir ∈ TB := tb_at 801 (by decide +kernel) rfl
set_option maxRecDepth 100000 in
theorem q802 : Cond.code yX5_isHeir cX5_isHeir 1 (some .boolean) ∈ TB := tb_at 802 rfl rfl
theorem q803 : Cond.methodLink RX5 97 yX5_isEnded ∈ TB := tb_at 803 (by decide +kernel) rfl
theorem q805 : Cond.instanceMethod yX5_isEnded ∈ TB := tb_at 805 (by decide +kernel) rfl
set_option maxRecDepth 100000 in
theorem q806 : Cond.code yX5_isEnded cX5_isEnded 2 (some .boolean) ∈ TB := tb_at 806 rfl rfl
theorem q807 : Cond.methodLink RX5 100 yX5_claims ∈ TB := tb_at 807 (by decide +kernel) rfl
theorem q809 : Cond.instanceMethod yX5_claims ∈ TB := tb_at 809 (by decide +kernel) rfl
set_option maxRecDepth 100000 in
theorem q810 : Cond.code yX5_claims cX5_claims 5 (some .boolean) ∈ TB := tb_at 810 rfl rfl
theorem q811 : Cond.methodLink RX5 47 yX5_claimOf ∈ TB := tb_at 811 (by decide +kernel) rfl
theorem q813 : Cond.instanceMethod yX5_claimOf ∈ TB := tb_at 813 (by decide +kernel) rfl
set_option maxRecDepth 100000 in
theorem q814 : Cond.code yX5_claimOf cX5_claimOf 3 (some .int) ∈ TB := tb_at 814 rfl rfl
theorem q815 : Cond.methodLink RX5 91 yX5_stands ∈ TB := tb_at 815 (by decide +kernel) rfl
theorem q817 : Cond.instanceMethod yX5_stands ∈ TB := tb_at 817 (by decide +kernel) rfl
set_option maxRecDepth 100000 in
theorem q818 : Cond.code yX5_stands cX5_stands 2 (some .boolean) ∈ TB := tb_at 818 rfl rfl
theorem q819 : Cond.methodLink RX5 110 yX5_claimNow ∈ TB := tb_at 819 (by decide +kernel) rfl
theorem q821 : Cond.instanceMethod yX5_claimNow ∈ TB := tb_at 821 (by decide +kernel) rfl
set_option maxRecDepth 100000 in
theorem q822 : Cond.code yX5_claimNow cX5_claimNow 6 (some .int) ∈ TB := tb_at 822 rfl rfl
theorem q823 : Cond.methodLink RX5 103 yX5_layClaim ∈ TB := tb_at 823 (by decide +kernel) rfl
theorem q825 : Cond.instanceMethod yX5_layClaim ∈ TB := tb_at 825 (by decide +kernel) rfl
set_option maxRecDepth 100000 in
theorem q826 : Cond.code yX5_layClaim cX5_layClaim 4 none ∈ TB := tb_at 826 rfl rfl
theorem q827 : Cond.methodLink RL 35 yX5_prove ∈ TB := tb_at 827 (by decide +kernel) rfl
theorem q828 : Cond.instanceMethod yX5_prove ∈ TB := tb_at 828 (by decide +kernel) rfl
theorem q829 : Cond.selects RX5 yX5_prove yX5_prove ∈ TB := tb_at 829 (by decide +kernel) rfl
set_option maxRecDepth 100000 in
theorem q830 : Cond.code yX5_prove cX5_prove 4 (some .int) ∈ TB := tb_at 830 rfl rfl
theorem q831 : Cond.methodLink RX5 119 yX5_whyNotProve ∈ TB := tb_at 831 (by decide +kernel) rfl
theorem q833 : Cond.instanceMethod yX5_whyNotProve ∈ TB := tb_at 833 (by decide +kernel) rfl
set_option maxRecDepth 100000 in
theorem q834 : Cond.code yX5_whyNotProve cX5_whyNotProve 3 (some .int) ∈ TB := tb_at 834 rfl rfl
theorem q835 : Cond.methodLink RX5 113 yX5_isClaim ∈ TB := tb_at 835 (by decide +kernel) rfl
theorem q837 : Cond.instanceMethod yX5_isClaim ∈ TB := tb_at 837 (by decide +kernel) rfl
set_option maxRecDepth 100000 in
theorem q838 : Cond.code yX5_isClaim cX5_isClaim 2 (some .boolean) ∈ TB := tb_at 838 rfl rfl
theorem q839 : Cond.methodLink RX5 116 yX5_whyNotOpen ∈ TB := tb_at 839 (by decide +kernel) rfl
theorem q841 : Cond.instanceMethod yX5_whyNotOpen ∈ TB := tb_at 841 (by decide +kernel) rfl
set_option maxRecDepth 100000 in
theorem q842 : Cond.code yX5_whyNotOpen cX5_whyNotOpen 2 (some .int) ∈ TB := tb_at 842 rfl rfl
theorem q843 : Cond.methodLink RX5 122 yX5_proveNow ∈ TB := tb_at 843 (by decide +kernel) rfl
theorem q845 : Cond.instanceMethod yX5_proveNow ∈ TB := tb_at 845 (by decide +kernel) rfl
set_option maxRecDepth 100000 in
theorem q846 : Cond.code yX5_proveNow cX5_proveNow 4 (some .int) ∈ TB := tb_at 846 rfl rfl
theorem q847 : Cond.methodLink RL 39 yX5_decide ∈ TB := tb_at 847 (by decide +kernel) rfl
theorem q848 : Cond.instanceMethod yX5_decide ∈ TB := tb_at 848 (by decide +kernel) rfl
theorem q849 : Cond.selects RX5 yX5_decide yX5_decide ∈ TB := tb_at 849 (by decide +kernel) rfl
set_option maxRecDepth 100000 in
theorem q850 : Cond.code yX5_decide cX5_decide 3 (some .int) ∈ TB := tb_at 850 rfl rfl
theorem q851 : Cond.methodLink RX5 125 yX5_whyNotDecide ∈ TB := tb_at 851 (by decide +kernel) rfl
theorem q853 : Cond.instanceMethod yX5_whyNotDecide ∈ TB := tb_at 853 (by decide +kernel) rfl
set_option maxRecDepth 100000 in
theorem q854 : Cond.code yX5_whyNotDecide cX5_whyNotDecide 2 (some .int) ∈ TB := tb_at 854 rfl rfl
theorem q855 : Cond.methodLink RX5 128 yX5_decideNow ∈ TB := tb_at 855 (by decide +kernel) rfl
theorem q857 : Cond.instanceMethod yX5_decideNow ∈ TB := tb_at 857 (by decide +kernel) rfl
set_option maxRecDepth 100000 in
theorem q858 : Cond.code yX5_decideNow cX5_decideNow 2 (some .int) ∈ TB := tb_at 858 rfl rfl
theorem q859 : Cond.methodLink RL 43 yX5_withdraw ∈ TB := tb_at 859 (by decide +kernel) rfl
theorem q860 : Cond.instanceMethod yX5_withdraw ∈ TB := tb_at 860 (by decide +kernel) rfl
theorem q861 : Cond.selects RX5 yX5_withdraw yX5_withdraw ∈ TB := tb_at 861 (by decide +kernel) rfl
set_option maxRecDepth 100000 in
theorem q862 : Cond.code yX5_withdraw cX5_withdraw 3 (some .int) ∈ TB := tb_at 862 rfl rfl
theorem q863 : Cond.methodLink RX5 134 yX5_whyNotWithdraw ∈ TB := tb_at 863 (by decide +kernel) rfl
theorem q865 : Cond.instanceMethod yX5_whyNotWithdraw ∈ TB := tb_at 865 (by decide +kernel) rfl
set_option maxRecDepth 100000 in
theorem q866 : Cond.code yX5_whyNotWithdraw cX5_whyNotWithdraw 2 (some .int) ∈ TB := tb_at 866 rfl rfl
theorem q867 : Cond.methodLink RX5 137 yX5_withdrawNow ∈ TB := tb_at 867 (by decide +kernel) rfl
theorem q869 : Cond.instanceMethod yX5_withdrawNow ∈ TB := tb_at 869 (by decide +kernel) rfl
set_option maxRecDepth 100000 in
theorem q870 : Cond.code yX5_withdrawNow cX5_withdrawNow 2 (some .int) ∈ TB := tb_at 870 rfl rfl
theorem q871 : Cond.methodLink RX5 131 yX5_standing ∈ TB := tb_at 871 (by decide +kernel) rfl
theorem q873 : Cond.instanceMethod yX5_standing ∈ TB := tb_at 873 (by decide +kernel) rfl
set_option maxRecDepth 100000 in
theorem q874 : Cond.code yX5_standing cX5_standing 2 (some .int) ∈ TB := tb_at 874 rfl rfl
theorem q875 : Cond.methodLink RX5 51 yX5_claimsTo ∈ TB := tb_at 875 (by decide +kernel) rfl
theorem q877 : Cond.instanceMethod yX5_claimsTo ∈ TB := tb_at 877 (by decide +kernel) rfl
set_option maxRecDepth 100000 in
theorem q878 : Cond.code yX5_claimsTo cX5_claimsTo 5 (some .int) ∈ TB := tb_at 878 rfl rfl
theorem q879 : Cond.methodLink RL 47 yX5_settle ∈ TB := tb_at 879 (by decide +kernel) rfl
theorem q880 : Cond.instanceMethod yX5_settle ∈ TB := tb_at 880 (by decide +kernel) rfl
theorem q881 : Cond.selects RX5 yX5_settle yX5_settle ∈ TB := tb_at 881 (by decide +kernel) rfl
set_option maxRecDepth 100000 in
theorem q882 : Cond.code yX5_settle cX5_settle 3 (some .int) ∈ TB := tb_at 882 rfl rfl
theorem q883 : Cond.methodLink RX5 156 yX5_whyNotSettle ∈ TB := tb_at 883 (by decide +kernel) rfl
theorem q885 : Cond.instanceMethod yX5_whyNotSettle ∈ TB := tb_at 885 (by decide +kernel) rfl
set_option maxRecDepth 100000 in
theorem q886 : Cond.code yX5_whyNotSettle cX5_whyNotSettle 2 (some .int) ∈ TB := tb_at 886 rfl rfl
theorem q887 : Cond.methodLink RX5 159 yX5_settleNow ∈ TB := tb_at 887 (by decide +kernel) rfl
theorem q889 : Cond.instanceMethod yX5_settleNow ∈ TB := tb_at 889 (by decide +kernel) rfl
set_option maxRecDepth 100000 in
theorem q890 : Cond.code yX5_settleNow cX5_settleNow 7 (some .int) ∈ TB := tb_at 890 rfl rfl
theorem q891 : Cond.methodLink RX5 143 yX5_nearestOnes ∈ TB := tb_at 891 (by decide +kernel) rfl
theorem q893 : Cond.instanceMethod yX5_nearestOnes ∈ TB := tb_at 893 (by decide +kernel) rfl
set_option maxRecDepth 100000 in
theorem q894 : Cond.code yX5_nearestOnes cX5_nearestOnes 5 (some .int) ∈ TB := tb_at 894 rfl rfl
theorem q895 : Cond.methodLink RX5 54 yX5_nearest ∈ TB := tb_at 895 (by decide +kernel) rfl
theorem q897 : Cond.instanceMethod yX5_nearest ∈ TB := tb_at 897 (by decide +kernel) rfl
set_option maxRecDepth 100000 in
theorem q898 : Cond.code yX5_nearest cX5_nearest 5 (some .int) ∈ TB := tb_at 898 rfl rfl
theorem q899 : Cond.methodLink RX5 146 yX5_shared ∈ TB := tb_at 899 (by decide +kernel) rfl
theorem q901 : Cond.instanceMethod yX5_shared ∈ TB := tb_at 901 (by decide +kernel) rfl
set_option maxRecDepth 100000 in
theorem q902 : Cond.code yX5_shared cX5_shared 3 (some .int) ∈ TB := tb_at 902 rfl rfl
theorem q903 : Cond.methodLink RX5 149 yX5_part ∈ TB := tb_at 903 (by decide +kernel) rfl
theorem q904 : Cond.static yX5_part ∈ TB := tb_at 904 (by decide +kernel) rfl
set_option maxRecDepth 100000 in
theorem q905 : Cond.code yX5_part cX5_part 5 (some .int) ∈ TB := tb_at 905 rfl rfl
theorem q906 : Cond.methodLink RX5 152 yX5_pay ∈ TB := tb_at 906 (by decide +kernel) rfl
theorem q908 : Cond.instanceMethod yX5_pay ∈ TB := tb_at 908 (by decide +kernel) rfl
set_option maxRecDepth 100000 in
theorem q909 : Cond.code yX5_pay cX5_pay 4 none ∈ TB := tb_at 909 rfl rfl
theorem q910 : Cond.methodLink RX5 140 yX5_isPaid ∈ TB := tb_at 910 (by decide +kernel) rfl
theorem q912 : Cond.instanceMethod yX5_isPaid ∈ TB := tb_at 912 (by decide +kernel) rfl
set_option maxRecDepth 100000 in
theorem q913 : Cond.code yX5_isPaid cX5_isPaid 4 (some .boolean) ∈ TB := tb_at 913 rfl rfl
theorem q914 : Cond.methodLink RL 51 yX5_pass ∈ TB := tb_at 914 (by decide +kernel) rfl
theorem q915 : Cond.instanceMethod yX5_pass ∈ TB := tb_at 915 (by decide +kernel) rfl
theorem q916 : Cond.selects RX5 yX5_pass yX5_pass ∈ TB := tb_at 916 (by decide +kernel) rfl
set_option maxRecDepth 100000 in
theorem q917 : Cond.code yX5_pass cX5_pass 3 (some .int) ∈ TB := tb_at 917 rfl rfl
theorem q918 : Cond.methodLink RX5 169 yX5_whyNotPass ∈ TB := tb_at 918 (by decide +kernel) rfl
theorem q920 : Cond.instanceMethod yX5_whyNotPass ∈ TB := tb_at 920 (by decide +kernel) rfl
set_option maxRecDepth 100000 in
theorem q921 : Cond.code yX5_whyNotPass cX5_whyNotPass 2 (some .int) ∈ TB := tb_at 921 rfl rfl
theorem q922 : Cond.methodLink RX5 172 yX5_passNow ∈ TB := tb_at 922 (by decide +kernel) rfl
theorem q924 : Cond.instanceMethod yX5_passNow ∈ TB := tb_at 924 (by decide +kernel) rfl
set_option maxRecDepth 100000 in
theorem q925 : Cond.code yX5_passNow cX5_passNow 4 (some .int) ∈ TB := tb_at 925 rfl rfl
theorem q926 : Cond.methodLink RX5 165 yX5_dayNow ∈ TB := tb_at 926 (by decide +kernel) rfl
theorem q928 : Cond.instanceMethod yX5_dayNow ∈ TB := tb_at 928 (by decide +kernel) rfl
set_option maxRecDepth 100000 in
theorem q929 : Cond.code yX5_dayNow cX5_dayNow 3 (some .int) ∈ TB := tb_at 929 rfl rfl
theorem q930 : Cond.methodLink RX5 162 yX5_dayOf ∈ TB := tb_at 930 (by decide +kernel) rfl
theorem q932 : Cond.instanceMethod yX5_dayOf ∈ TB := tb_at 932 (by decide +kernel) rfl
set_option maxRecDepth 100000 in
theorem q933 : Cond.code yX5_dayOf cX5_dayOf 5 (some .boolean) ∈ TB := tb_at 933 rfl rfl
theorem q934 : Cond.methodLink RL 55 yX5_of ∈ TB := tb_at 934 (by decide +kernel) rfl
theorem q935 : Cond.instanceMethod yX5_of ∈ TB := tb_at 935 (by decide +kernel) rfl
theorem q936 : Cond.selects RX5 yX5_of yX5_of ∈ TB := tb_at 936 (by decide +kernel) rfl
set_option maxRecDepth 100000 in
theorem q937 : Cond.code yX5_of cX5_of 3 (some .int) ∈ TB := tb_at 937 rfl rfl
theorem q938 : Cond.methodLink RX5 175 yX5_allClaimsTo ∈ TB := tb_at 938 (by decide +kernel) rfl
theorem q940 : Cond.instanceMethod yX5_allClaimsTo ∈ TB := tb_at 940 (by decide +kernel) rfl
set_option maxRecDepth 100000 in
theorem q941 : Cond.code yX5_allClaimsTo cX5_allClaimsTo 4 (some .int) ∈ TB := tb_at 941 rfl rfl
theorem q942 : Cond.methodLink RL 59 yX5_ofClaim ∈ TB := tb_at 942 (by decide +kernel) rfl
theorem q943 : Cond.instanceMethod yX5_ofClaim ∈ TB := tb_at 943 (by decide +kernel) rfl
theorem q944 : Cond.selects RX5 yX5_ofClaim yX5_ofClaim ∈ TB := tb_at 944 (by decide +kernel) rfl
set_option maxRecDepth 100000 in
theorem q945 : Cond.code yX5_ofClaim cX5_ofClaim 3 (some .int) ∈ TB := tb_at 945 rfl rfl
theorem q946 : Cond.methodLink RL 63 yX5_heir ∈ TB := tb_at 946 (by decide +kernel) rfl
theorem q947 : Cond.instanceMethod yX5_heir ∈ TB := tb_at 947 (by decide +kernel) rfl
theorem q948 : Cond.selects RX5 yX5_heir yX5_heir ∈ TB := tb_at 948 (by decide +kernel) rfl
set_option maxRecDepth 100000 in
theorem q949 : Cond.code yX5_heir cX5_heir 3 (some .int) ∈ TB := tb_at 949 rfl rfl
theorem q950 : Cond.methodLink RX5 178 yX5_claimsOf ∈ TB := tb_at 950 (by decide +kernel) rfl
theorem q952 : Cond.instanceMethod yX5_claimsOf ∈ TB := tb_at 952 (by decide +kernel) rfl
set_option maxRecDepth 100000 in
theorem q953 : Cond.code yX5_claimsOf cX5_claimsOf 5 (some .int) ∈ TB := tb_at 953 rfl rfl
theorem q954 : Cond.methodLink RX5 182 yX5_lotsGot ∈ TB := tb_at 954 (by decide +kernel) rfl
theorem q956 : Cond.instanceMethod yX5_lotsGot ∈ TB := tb_at 956 (by decide +kernel) rfl
set_option maxRecDepth 100000 in
theorem q957 : Cond.code yX5_lotsGot cX5_lotsGot 4 (some .int) ∈ TB := tb_at 957 rfl rfl
theorem q958 : Cond.methodLink RL 67 yX5_paid ∈ TB := tb_at 958 (by decide +kernel) rfl
theorem q959 : Cond.instanceMethod yX5_paid ∈ TB := tb_at 959 (by decide +kernel) rfl
theorem q960 : Cond.selects RX5 yX5_paid yX5_paid ∈ TB := tb_at 960 (by decide +kernel) rfl
set_option maxRecDepth 100000 in
theorem q961 : Cond.code yX5_paid cX5_paid 2 (some .int) ∈ TB := tb_at 961 rfl rfl
theorem q962 : Cond.methodLink RL 71 yX5_count ∈ TB := tb_at 962 (by decide +kernel) rfl
theorem q963 : Cond.instanceMethod yX5_count ∈ TB := tb_at 963 (by decide +kernel) rfl
theorem q964 : Cond.selects RX5 yX5_count yX5_count ∈ TB := tb_at 964 (by decide +kernel) rfl
set_option maxRecDepth 100000 in
theorem q965 : Cond.code yX5_count cX5_count 2 (some .int) ∈ TB := tb_at 965 rfl rfl
theorem q966 : Cond.methodLink RX5 185 yX5_valueOf ∈ TB := tb_at 966 (by decide +kernel) rfl
theorem q968 : Cond.instanceMethod yX5_valueOf ∈ TB := tb_at 968 (by decide +kernel) rfl
set_option maxRecDepth 100000 in
theorem q969 : Cond.code yX5_valueOf cX5_valueOf 4 (some .int) ∈ TB := tb_at 969 rfl rfl
theorem q970 : Cond.methodLink RX5 188 yX5_purses ∈ TB := tb_at 970 (by decide +kernel) rfl
theorem q972 : Cond.instanceMethod yX5_purses ∈ TB := tb_at 972 (by decide +kernel) rfl
set_option maxRecDepth 100000 in
theorem q973 : Cond.code yX5_purses cX5_purses 3 (some .int) ∈ TB := tb_at 973 rfl rfl
theorem q974 : Cond.methodLink RX5 191 yX5_standingClaims ∈ TB := tb_at 974 (by decide +kernel) rfl
theorem q976 : Cond.instanceMethod yX5_standingClaims ∈ TB := tb_at 976 (by decide +kernel) rfl
set_option maxRecDepth 100000 in
theorem q977 : Cond.code yX5_standingClaims cX5_standingClaims 3 (some .int) ∈ TB := tb_at 977 rfl rfl
theorem q978 : Cond.methodLink RX5 194 yX5_heirsWhoClaimed ∈ TB := tb_at 978 (by decide +kernel) rfl
theorem q980 : Cond.instanceMethod yX5_heirsWhoClaimed ∈ TB := tb_at 980 (by decide +kernel) rfl
set_option maxRecDepth 100000 in
theorem q981 : Cond.code yX5_heirsWhoClaimed cX5_heirsWhoClaimed 3 (some .int) ∈ TB := tb_at 981 rfl rfl
theorem q982 : Cond.methodLink RL 75 yX5_why ∈ TB := tb_at 982 (by decide +kernel) rfl
theorem q983 : Cond.instanceMethod yX5_why ∈ TB := tb_at 983 (by decide +kernel) rfl
theorem q984 : Cond.selects RX5 yX5_why yX5_why ∈ TB := tb_at 984 (by decide +kernel) rfl
set_option maxRecDepth 100000 in
theorem q985 : Cond.code yX5_why cX5_why 2 (some .int) ∈ TB := tb_at 985 rfl rfl
theorem q986 : Cond.methodLink RL 79 yX5_fallsIn ∈ TB := tb_at 986 (by decide +kernel) rfl
theorem q987 : Cond.instanceMethod yX5_fallsIn ∈ TB := tb_at 987 (by decide +kernel) rfl
theorem q988 : Cond.selects RX5 yX5_fallsIn yX5_fallsIn ∈ TB := tb_at 988 (by decide +kernel) rfl
set_option maxRecDepth 100000 in
theorem q989 : Cond.code yX5_fallsIn cX5_fallsIn 2 (some .int) ∈ TB := tb_at 989 rfl rfl
theorem q990 : Cond.methodLink RX5 200 yX5_daysToFall ∈ TB := tb_at 990 (by decide +kernel) rfl
theorem q992 : Cond.instanceMethod yX5_daysToFall ∈ TB := tb_at 992 (by decide +kernel) rfl
set_option maxRecDepth 100000 in
theorem q993 : Cond.code yX5_daysToFall cX5_daysToFall 4 (some .int) ∈ TB := tb_at 993 rfl rfl
theorem q994 : Cond.methodLink RL 83 yX5_share ∈ TB := tb_at 994 (by decide +kernel) rfl
theorem q995 : Cond.instanceMethod yX5_share ∈ TB := tb_at 995 (by decide +kernel) rfl
theorem q996 : Cond.selects RX5 yX5_share yX5_share ∈ TB := tb_at 996 (by decide +kernel) rfl
set_option maxRecDepth 100000 in
theorem q997 : Cond.code yX5_share cX5_share 4 (some .int) ∈ TB := tb_at 997 rfl rfl
theorem q998 : Cond.methodLink RX5 203 yX5_shareOf ∈ TB := tb_at 998 (by decide +kernel) rfl
theorem q1000 : Cond.instanceMethod yX5_shareOf ∈ TB := tb_at 1000 (by decide +kernel) rfl
set_option maxRecDepth 100000 in
theorem q1001 : Cond.code yX5_shareOf cX5_shareOf 7 (some .int) ∈ TB := tb_at 1001 rfl rfl
theorem q1002 : Cond.methodLink RL 87 yX5_nextFall ∈ TB := tb_at 1002 (by decide +kernel) rfl
theorem q1003 : Cond.instanceMethod yX5_nextFall ∈ TB := tb_at 1003 (by decide +kernel) rfl
theorem q1004 : Cond.selects RX5 yX5_nextFall yX5_nextFall ∈ TB := tb_at 1004 (by decide +kernel) rfl
set_option maxRecDepth 100000 in
theorem q1005 : Cond.code yX5_nextFall cX5_nextFall 7 (some .int) ∈ TB := tb_at 1005 rfl rfl
theorem q1006 : Cond.methodLink RL 91 yX5_nextLapse ∈ TB := tb_at 1006 (by decide +kernel) rfl
theorem q1007 : Cond.instanceMethod yX5_nextLapse ∈ TB := tb_at 1007 (by decide +kernel) rfl
theorem q1008 : Cond.selects RX5 yX5_nextLapse yX5_nextLapse ∈ TB := tb_at 1008 (by decide +kernel) rfl
set_option maxRecDepth 100000 in
theorem q1009 : Cond.code yX5_nextLapse cX5_nextLapse 5 (some .int) ∈ TB := tb_at 1009 rfl rfl
theorem q1010 : Cond.methodLink RX5 206 yX5_lapsesIn ∈ TB := tb_at 1010 (by decide +kernel) rfl
theorem q1012 : Cond.instanceMethod yX5_lapsesIn ∈ TB := tb_at 1012 (by decide +kernel) rfl
set_option maxRecDepth 100000 in
theorem q1013 : Cond.code yX5_lapsesIn cX5_lapsesIn 3 (some .int) ∈ TB := tb_at 1013 rfl rfl
theorem q1014 : Cond.methodLink RL 98 yX5_put ∈ TB := tb_at 1014 (by decide +kernel) rfl
theorem q1015 : Cond.instanceMethod yX5_put ∈ TB := tb_at 1015 (by decide +kernel) rfl
theorem q1016 : Cond.selects RX5 yX5_put yX5_put ∈ TB := tb_at 1016 (by decide +kernel) rfl
set_option maxRecDepth 100000 in
theorem q1017 : Cond.code yX5_put cX5_put 7 (some .int) ∈ TB := tb_at 1017 rfl rfl
theorem q1018 : Cond.constantLong RX5 209 (255) ∈ TB := tb_at 1018 (by decide +kernel) rfl
theorem q1019 : Cond.methodLink RL 103 yX5_wipe ∈ TB := tb_at 1019 (by decide +kernel) rfl
theorem q1020 : Cond.instanceMethod yX5_wipe ∈ TB := tb_at 1020 (by decide +kernel) rfl
theorem q1021 : Cond.selects RX5 yX5_wipe yX5_wipe ∈ TB := tb_at 1021 (by decide +kernel) rfl
set_option maxRecDepth 100000 in
theorem q1022 : Cond.code yX5_wipe cX5_wipe 2 (some .int) ∈ TB := tb_at 1022 rfl rfl
theorem q1023 : Cond.methodLink RL 107 yX5_fault ∈ TB := tb_at 1023 (by decide +kernel) rfl
theorem q1024 : Cond.instanceMethod yX5_fault ∈ TB := tb_at 1024 (by decide +kernel) rfl
theorem q1025 : Cond.selects RX5 yX5_fault yX5_fault ∈ TB := tb_at 1025 (by decide +kernel) rfl
set_option maxRecDepth 100000 in
theorem q1026 : Cond.code yX5_fault cX5_fault 1 (some .int) ∈ TB := tb_at 1026 rfl rfl
theorem q1027 : Cond.methodLink RX5 233 yX5_readPad ∈ TB := tb_at 1027 (by decide +kernel) rfl
theorem q1029 : Cond.instanceMethod yX5_readPad ∈ TB := tb_at 1029 (by decide +kernel) rfl
set_option maxRecDepth 100000 in
theorem q1030 : Cond.code yX5_readPad cX5_readPad 2 (some .boolean) ∈ TB := tb_at 1030 rfl rfl
theorem q1031 : Cond.methodLink RX5 229 yX5_readOrder ∈ TB := tb_at 1031 (by decide +kernel) rfl
theorem q1033 : Cond.instanceMethod yX5_readOrder ∈ TB := tb_at 1033 (by decide +kernel) rfl
set_option maxRecDepth 100000 in
theorem q1034 : Cond.code yX5_readOrder cX5_readOrder 5 (some .boolean) ∈ TB := tb_at 1034 rfl rfl
theorem q1035 : Cond.methodLink RX5 217 yX5_isLetter ∈ TB := tb_at 1035 (by decide +kernel) rfl
theorem q1036 : Cond.static yX5_isLetter ∈ TB := tb_at 1036 (by decide +kernel) rfl
set_option maxRecDepth 100000 in
theorem q1037 : Cond.code yX5_isLetter cX5_isLetter 1 (some .boolean) ∈ TB := tb_at 1037 rfl rfl
theorem q1038 : Cond.methodLink RX5 220 yX5_number ∈ TB := tb_at 1038 (by decide +kernel) rfl
theorem q1040 : Cond.instanceMethod yX5_number ∈ TB := tb_at 1040 (by decide +kernel) rfl
set_option maxRecDepth 100000 in
theorem q1041 : Cond.code yX5_number cX5_number 3 (some .int) ∈ TB := tb_at 1041 rfl rfl
theorem q1042 : Cond.methodLink RX5 214 yX5_sees ∈ TB := tb_at 1042 (by decide +kernel) rfl
theorem q1044 : Cond.instanceMethod yX5_sees ∈ TB := tb_at 1044 (by decide +kernel) rfl
set_option maxRecDepth 100000 in
theorem q1045 : Cond.code yX5_sees cX5_sees 3 (some .boolean) ∈ TB := tb_at 1045 rfl rfl
theorem q1046 : Cond.methodLink RX5 223 yX5_takes ∈ TB := tb_at 1046 (by decide +kernel) rfl
theorem q1048 : Cond.instanceMethod yX5_takes ∈ TB := tb_at 1048 (by decide +kernel) rfl
set_option maxRecDepth 100000 in
theorem q1049 : Cond.code yX5_takes cX5_takes 3 (some .boolean) ∈ TB := tb_at 1049 rfl rfl
theorem q1050 : Cond.methodLink RL 111 yX5_carryOut ∈ TB := tb_at 1050 (by decide +kernel) rfl
theorem q1051 : Cond.instanceMethod yX5_carryOut ∈ TB := tb_at 1051 (by decide +kernel) rfl
theorem q1052 : Cond.selects RX5 yX5_carryOut yX5_carryOut ∈ TB := tb_at 1052 (by decide +kernel) rfl
set_option maxRecDepth 100000 in
theorem q1053 : Cond.code yX5_carryOut cX5_carryOut 2 (some .int) ∈ TB := tb_at 1053 rfl rfl
theorem q1054 : Cond.methodLink RX5 236 yX5_whyNot ∈ TB := tb_at 1054 (by decide +kernel) rfl
theorem q1056 : Cond.instanceMethod yX5_whyNot ∈ TB := tb_at 1056 (by decide +kernel) rfl
set_option maxRecDepth 100000 in
theorem q1057 : Cond.code yX5_whyNot cX5_whyNot 3 (some .int) ∈ TB := tb_at 1057 rfl rfl
theorem q1058 : Cond.methodLink RX5 239 yX5_doOrder ∈ TB := tb_at 1058 (by decide +kernel) rfl
theorem q1060 : Cond.instanceMethod yX5_doOrder ∈ TB := tb_at 1060 (by decide +kernel) rfl
set_option maxRecDepth 100000 in
theorem q1061 : Cond.code yX5_doOrder cX5_doOrder 3 (some .int) ∈ TB := tb_at 1061 rfl rfl
theorem q1062 : Cond.constantLong RL 92 (4294967295) ∈ TB := tb_at 1062 (by decide +kernel) rfl
theorem p0 : Cond.selects RX4 yX4_draft yX4_draft ∈ TB := tb_at 0 (by decide +kernel) rfl
theorem p1 : Cond.selects RX4 yX4_recorded yX4_recorded ∈ TB := tb_at 1 (by decide +kernel) rfl
theorem p2 : Cond.selects RX4 yX4_dropOldest yX4_dropOldest ∈ TB := tb_at 2 (by decide +kernel) rfl
theorem p3 : Cond.selects RX2 yX2_canBeClaimed yX2_canBeClaimed ∈ TB := tb_at 3 (by decide +kernel) rfl
theorem p4 : Cond.selects RX2 yX2_coinsToShare yX2_coinsToShare ∈ TB := tb_at 4 (by decide +kernel) rfl
theorem p5 : Cond.selects RX2 yX2_settleClaim yX2_settleClaim ∈ TB := tb_at 5 (by decide +kernel) rfl
theorem p6 : Cond.selects RX2 yX2_purse yX2_purse ∈ TB := tb_at 6 (by decide +kernel) rfl
theorem p7 : Cond.selects RX2 yX2_leaveOffice yX2_leaveOffice ∈ TB := tb_at 7 (by decide +kernel) rfl
theorem p8 : Cond.selects RX2 yX2_passDay yX2_passDay ∈ TB := tb_at 8 (by decide +kernel) rfl
theorem p9 : Cond.selects RX0 yX0_waitLonger yX0_waitLonger ∈ TB := tb_at 9 (by decide +kernel) rfl
theorem p10 : Cond.selects RX2 yX2_countDay yX2_countDay ∈ TB := tb_at 10 (by decide +kernel) rfl
theorem p11 : Cond.selects RX2 yX2_idleDays yX2_idleDays ∈ TB := tb_at 11 (by decide +kernel) rfl
theorem p12 : Cond.selects RX2 yX2_daysToLapse yX2_daysToLapse ∈ TB := tb_at 12 (by decide +kernel) rfl
theorem p13 : Cond.selects RX2 yX2_lapsesAhead yX2_lapsesAhead ∈ TB := tb_at 13 (by decide +kernel) rfl
theorem p14 : Cond.selects RX3 yX3_readFirst yX3_readFirst ∈ TB := tb_at 14 (by decide +kernel) rfl
theorem p15 : Cond.selects RX3 yX3_readNumber yX3_readNumber ∈ TB := tb_at 15 (by decide +kernel) rfl
theorem p16 : Cond.selects RX3 yX3_readDigit yX3_readDigit ∈ TB := tb_at 16 (by decide +kernel) rfl
theorem p17 : Cond.selects RX3 yX3_readSecond yX3_readSecond ∈ TB := tb_at 17 (by decide +kernel) rfl
theorem p18 : Cond.selects RX3 yX3_readThird yX3_readThird ∈ TB := tb_at 18 (by decide +kernel) rfl
theorem p19 : Cond.selects RX4 yX4_carryOutOrder yX4_carryOutOrder ∈ TB := tb_at 19 (by decide +kernel) rfl
theorem p20 : Cond.selects RX5 yX5_record yX5_record ∈ TB := tb_at 20 (by decide +kernel) rfl
theorem p21 : Cond.selects RX5 yX5_whyNotLot yX5_whyNotLot ∈ TB := tb_at 21 (by decide +kernel) rfl
theorem p22 : Cond.selects RX5 yX5_lotNow yX5_lotNow ∈ TB := tb_at 22 (by decide +kernel) rfl
theorem p23 : Cond.selects RX5 yX5_layLot yX5_layLot ∈ TB := tb_at 23 (by decide +kernel) rfl
theorem p24 : Cond.selects RX5 yX5_whyNotNotice yX5_whyNotNotice ∈ TB := tb_at 24 (by decide +kernel) rfl
theorem p25 : Cond.selects RX5 yX5_isLot yX5_isLot ∈ TB := tb_at 25 (by decide +kernel) rfl
theorem p26 : Cond.selects RX5 yX5_lotOf yX5_lotOf ∈ TB := tb_at 26 (by decide +kernel) rfl
theorem p27 : Cond.selects RX5 yX5_noticeNow yX5_noticeNow ∈ TB := tb_at 27 (by decide +kernel) rfl
theorem p28 : Cond.selects RX5 yX5_lotsThatAre yX5_lotsThatAre ∈ TB := tb_at 28 (by decide +kernel) rfl
theorem p29 : Cond.selects RX5 yX5_whyNotClaim yX5_whyNotClaim ∈ TB := tb_at 29 (by decide +kernel) rfl
theorem p30 : Cond.selects RX5 yX5_isEnded yX5_isEnded ∈ TB := tb_at 30 (by decide +kernel) rfl
theorem p31 : Cond.selects RX5 yX5_claims yX5_claims ∈ TB := tb_at 31 (by decide +kernel) rfl
theorem p32 : Cond.selects RX5 yX5_claimOf yX5_claimOf ∈ TB := tb_at 32 (by decide +kernel) rfl
theorem p33 : Cond.selects RX5 yX5_stands yX5_stands ∈ TB := tb_at 33 (by decide +kernel) rfl
theorem p34 : Cond.selects RX5 yX5_claimNow yX5_claimNow ∈ TB := tb_at 34 (by decide +kernel) rfl
theorem p35 : Cond.selects RX5 yX5_layClaim yX5_layClaim ∈ TB := tb_at 35 (by decide +kernel) rfl
theorem p36 : Cond.selects RX5 yX5_whyNotProve yX5_whyNotProve ∈ TB := tb_at 36 (by decide +kernel) rfl
theorem p37 : Cond.selects RX5 yX5_isClaim yX5_isClaim ∈ TB := tb_at 37 (by decide +kernel) rfl
theorem p38 : Cond.selects RX5 yX5_whyNotOpen yX5_whyNotOpen ∈ TB := tb_at 38 (by decide +kernel) rfl
theorem p39 : Cond.selects RX5 yX5_proveNow yX5_proveNow ∈ TB := tb_at 39 (by decide +kernel) rfl
theorem p40 : Cond.selects RX5 yX5_whyNotDecide yX5_whyNotDecide ∈ TB := tb_at 40 (by decide +kernel) rfl
theorem p41 : Cond.selects RX5 yX5_decideNow yX5_decideNow ∈ TB := tb_at 41 (by decide +kernel) rfl
theorem p42 : Cond.selects RX5 yX5_whyNotWithdraw yX5_whyNotWithdraw ∈ TB := tb_at 42 (by decide +kernel) rfl
theorem p43 : Cond.selects RX5 yX5_withdrawNow yX5_withdrawNow ∈ TB := tb_at 43 (by decide +kernel) rfl
theorem p44 : Cond.selects RX5 yX5_standing yX5_standing ∈ TB := tb_at 44 (by decide +kernel) rfl
theorem p45 : Cond.selects RX5 yX5_claimsTo yX5_claimsTo ∈ TB := tb_at 45 (by decide +kernel) rfl
theorem p46 : Cond.selects RX5 yX5_whyNotSettle yX5_whyNotSettle ∈ TB := tb_at 46 (by decide +kernel) rfl
theorem p47 : Cond.selects RX5 yX5_settleNow yX5_settleNow ∈ TB := tb_at 47 (by decide +kernel) rfl
theorem p48 : Cond.selects RX5 yX5_nearestOnes yX5_nearestOnes ∈ TB := tb_at 48 (by decide +kernel) rfl
theorem p49 : Cond.selects RX5 yX5_nearest yX5_nearest ∈ TB := tb_at 49 (by decide +kernel) rfl
theorem p50 : Cond.selects RX5 yX5_shared yX5_shared ∈ TB := tb_at 50 (by decide +kernel) rfl
theorem p51 : Cond.selects RX5 yX5_pay yX5_pay ∈ TB := tb_at 51 (by decide +kernel) rfl
theorem p52 : Cond.selects RX5 yX5_isPaid yX5_isPaid ∈ TB := tb_at 52 (by decide +kernel) rfl
theorem p53 : Cond.selects RX5 yX5_whyNotPass yX5_whyNotPass ∈ TB := tb_at 53 (by decide +kernel) rfl
theorem p54 : Cond.selects RX5 yX5_passNow yX5_passNow ∈ TB := tb_at 54 (by decide +kernel) rfl
theorem p55 : Cond.selects RX5 yX5_dayNow yX5_dayNow ∈ TB := tb_at 55 (by decide +kernel) rfl
theorem p56 : Cond.selects RX5 yX5_dayOf yX5_dayOf ∈ TB := tb_at 56 (by decide +kernel) rfl
theorem p57 : Cond.selects RX5 yX5_allClaimsTo yX5_allClaimsTo ∈ TB := tb_at 57 (by decide +kernel) rfl
theorem p58 : Cond.selects RX5 yX5_claimsOf yX5_claimsOf ∈ TB := tb_at 58 (by decide +kernel) rfl
theorem p59 : Cond.selects RX5 yX5_lotsGot yX5_lotsGot ∈ TB := tb_at 59 (by decide +kernel) rfl
theorem p60 : Cond.selects RX5 yX5_valueOf yX5_valueOf ∈ TB := tb_at 60 (by decide +kernel) rfl
theorem p61 : Cond.selects RX5 yX5_purses yX5_purses ∈ TB := tb_at 61 (by decide +kernel) rfl
theorem p62 : Cond.selects RX5 yX5_standingClaims yX5_standingClaims ∈ TB := tb_at 62 (by decide +kernel) rfl
theorem p63 : Cond.selects RX5 yX5_heirsWhoClaimed yX5_heirsWhoClaimed ∈ TB := tb_at 63 (by decide +kernel) rfl
theorem p64 : Cond.selects RX5 yX5_daysToFall yX5_daysToFall ∈ TB := tb_at 64 (by decide +kernel) rfl
theorem p65 : Cond.selects RX5 yX5_shareOf yX5_shareOf ∈ TB := tb_at 65 (by decide +kernel) rfl
theorem p66 : Cond.selects RX5 yX5_lapsesIn yX5_lapsesIn ∈ TB := tb_at 66 (by decide +kernel) rfl
theorem p67 : Cond.selects RX5 yX5_readPad yX5_readPad ∈ TB := tb_at 67 (by decide +kernel) rfl
theorem p68 : Cond.selects RX5 yX5_readOrder yX5_readOrder ∈ TB := tb_at 68 (by decide +kernel) rfl
theorem p69 : Cond.selects RX5 yX5_number yX5_number ∈ TB := tb_at 69 (by decide +kernel) rfl
theorem p70 : Cond.selects RX5 yX5_sees yX5_sees ∈ TB := tb_at 70 (by decide +kernel) rfl
theorem p71 : Cond.selects RX5 yX5_takes yX5_takes ∈ TB := tb_at 71 (by decide +kernel) rfl
theorem p72 : Cond.selects RX5 yX5_whyNot yX5_whyNot ∈ TB := tb_at 72 (by decide +kernel) rfl
theorem p73 : Cond.selects RX5 yX5_doOrder yX5_doOrder ∈ TB := tb_at 73 (by decide +kernel) rfl
