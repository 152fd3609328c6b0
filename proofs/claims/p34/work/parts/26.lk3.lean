/-! TABLES: the links stand in the tables (written by a program) -/
theorem lk146 : kAll "DoorPaintsModel" "firstDraft" cL146 := kOK_of (by decide +kernel : kOK "DoorPaintsModel" "firstDraft" cL146 cK146 = true)
theorem lk147_0 : kOK "DoorPaintsModel" "keepDraft" cL147_0 cK147_0 = true := by decide +kernel
theorem lk147_1 : kOK "DoorPaintsModel" "keepDraft" cL147_1 cK147_1 = true := by decide +kernel
theorem lk147 : kAll "DoorPaintsModel" "keepDraft" cL147 := kOK_app lk147_0 (kOK_of lk147_1)
theorem lk148 : kAll "DoorPaintsModel" "feed" cL148 := kOK_of (by decide +kernel : kOK "DoorPaintsModel" "feed" cL148 cK148 = true)
theorem lk149 : kAll "DoorPaintsModel" "in" cL149 := kOK_of (by decide +kernel : kOK "DoorPaintsModel" "in" cL149 cK149 = true)
theorem lk150 : kAll "DoorPaintsModel" "end" cL150 := kOK_of (by decide +kernel : kOK "DoorPaintsModel" "end" cL150 cK150 = true)
theorem lk151_0 : kOK "DoorPaintsModel" "text" cL151_0 cK151_0 = true := by decide +kernel
theorem lk151_1 : kOK "DoorPaintsModel" "text" cL151_1 cK151_1 = true := by decide +kernel
theorem lk151 : kAll "DoorPaintsModel" "text" cL151 := kOK_app lk151_0 (kOK_of lk151_1)
theorem lk152_0 : kOK "DoorPaintsModel" "next" cL152_0 cK152_0 = true := by decide +kernel
theorem lk152_1 : kOK "DoorPaintsModel" "next" cL152_1 cK152_1 = true := by decide +kernel
theorem lk152_2 : kOK "DoorPaintsModel" "next" cL152_2 cK152_2 = true := by decide +kernel
theorem lk152 : kAll "DoorPaintsModel" "next" cL152 := kOK_app lk152_0 (kOK_app lk152_1 (kOK_of lk152_2))
theorem lk153 : kAll "DoorPaintsModel" "byteAt" cL153 := kOK_of (by decide +kernel : kOK "DoorPaintsModel" "byteAt" cL153 cK153 = true)
theorem lk154 : kAll "DoorPaintsModel" "needs" cL154 := kOK_of (by decide +kernel : kOK "DoorPaintsModel" "needs" cL154 cK154 = true)
theorem lk155_0 : kOK "DoorPaintsModel" "readLine" cL155_0 cK155_0 = true := by decide +kernel
theorem lk155_1 : kOK "DoorPaintsModel" "readLine" cL155_1 cK155_1 = true := by decide +kernel
theorem lk155 : kAll "DoorPaintsModel" "readLine" cL155 := kOK_app lk155_0 (kOK_of lk155_1)
theorem lk156_0 : kOK "DoorPaintsModel" "lineNow" cL156_0 cK156_0 = true := by decide +kernel
theorem lk156_1 : kOK "DoorPaintsModel" "lineNow" cL156_1 cK156_1 = true := by decide +kernel
theorem lk156 : kAll "DoorPaintsModel" "lineNow" cL156 := kOK_app lk156_0 (kOK_of lk156_1)
theorem lk157 : kAll "DoorPaintsModel" "is" cL157 := kOK_of (by decide +kernel : kOK "DoorPaintsModel" "is" cL157 cK157 = true)
theorem lk158 : kAll "DoorPaintsModel" "ends" cL158 := kOK_of (by decide +kernel : kOK "DoorPaintsModel" "ends" cL158 cK158 = true)
theorem lk159 : kAll "DoorPaintsModel" "readLineOf" cL159 := kOK_of (by decide +kernel : kOK "DoorPaintsModel" "readLineOf" cL159 cK159 = true)
theorem lk160_0 : kOK "DoorPaintsModel" "readDoor" cL160_0 cK160_0 = true := by decide +kernel
theorem lk160_1 : kOK "DoorPaintsModel" "readDoor" cL160_1 cK160_1 = true := by decide +kernel
theorem lk160 : kAll "DoorPaintsModel" "readDoor" cL160 := kOK_app lk160_0 (kOK_of lk160_1)
theorem lk161 : kAll "DoorPaintsModel" "readNumber" cL161 := kOK_of (by decide +kernel : kOK "DoorPaintsModel" "readNumber" cL161 cK161 = true)
theorem lk162 : kAll "DoorPaintsModel" "looked" cL162 := kOK_of (by decide +kernel : kOK "DoorPaintsModel" "looked" cL162 cK162 = true)
theorem lk163_0 : kOK "DoorPaintsModel" "readNot" cL163_0 cK163_0 = true := by decide +kernel
theorem lk163_1 : kOK "DoorPaintsModel" "readNot" cL163_1 cK163_1 = true := by decide +kernel
theorem lk163 : kAll "DoorPaintsModel" "readNot" cL163 := kOK_app lk163_0 (kOK_of lk163_1)
theorem lk164_0 : kOK "DoorPaintsModel" "readPlan" cL164_0 cK164_0 = true := by decide +kernel
theorem lk164_1 : kOK "DoorPaintsModel" "readPlan" cL164_1 cK164_1 = true := by decide +kernel
theorem lk164 : kAll "DoorPaintsModel" "readPlan" cL164 := kOK_app lk164_0 (kOK_of lk164_1)
theorem lk165 : kAll "DoorPaintsModel" "isActLike" cL165 := kOK_of (by decide +kernel : kOK "DoorPaintsModel" "isActLike" cL165 cK165 = true)
theorem lk166 : kAll "DoorPaintsModel" "readVisitor" cL166 := kOK_of (by decide +kernel : kOK "DoorPaintsModel" "readVisitor" cL166 cK166 = true)
theorem lk167 : kAll "DoorPaintsModel" "fault" cL167 := kOK_of (by decide +kernel : kOK "DoorPaintsModel" "fault" cL167 cK167 = true)
theorem lk168_0 : kOK "DoorPaintsModel" "rule" cL168_0 cK168_0 = true := by decide +kernel
theorem lk168_1 : kOK "DoorPaintsModel" "rule" cL168_1 cK168_1 = true := by decide +kernel
theorem lk168 : kAll "DoorPaintsModel" "rule" cL168 := kOK_app lk168_0 (kOK_of lk168_1)
theorem lk169 : kAll "DoorPaintsModel" "starts" cL169 := kOK_of (by decide +kernel : kOK "DoorPaintsModel" "starts" cL169 cK169 = true)
theorem lk170 : kAll "DoorPaintsModel" "ofDoor" cL170 := kOK_of (by decide +kernel : kOK "DoorPaintsModel" "ofDoor" cL170 cK170 = true)
theorem lk171 : kAll "DoorPaintsModel" "of" cL171 := kOK_of (by decide +kernel : kOK "DoorPaintsModel" "of" cL171 cK171 = true)
theorem lk172 : kAll "DoorPaintsModel" "wrong" cL172 := kOK_of (by decide +kernel : kOK "DoorPaintsModel" "wrong" cL172 cK172 = true)
theorem lk173 : kAll "DoorPaintsModel" "isWrong" cL173 := kOK_of (by decide +kernel : kOK "DoorPaintsModel" "isWrong" cL173 cK173 = true)
theorem lk174 : kAll "DoorPaintsModel" "showsOf" cL174 := kOK_of (by decide +kernel : kOK "DoorPaintsModel" "showsOf" cL174 cK174 = true)
theorem lk175 : kAll "DoorPaintsModel" "layerOf" cL175 := kOK_of (by decide +kernel : kOK "DoorPaintsModel" "layerOf" cL175 cK175 = true)
theorem lk176 : kAll "DoorPaintsModel" "flag" cL176 := kOK_of (by decide +kernel : kOK "DoorPaintsModel" "flag" cL176 cK176 = true)
theorem lk177 : kAll "DoorPaintsModel" "visitor" cL177 := kOK_of (by decide +kernel : kOK "DoorPaintsModel" "visitor" cL177 cK177 = true)
theorem lk178 : kAll "DoorPaintsModel" "isVisitor" cL178 := kOK_of (by decide +kernel : kOK "DoorPaintsModel" "isVisitor" cL178 cK178 = true)
theorem lk179 : kAll "DoorPaintsModel" "brushOf" cL179 := kOK_of (by decide +kernel : kOK "DoorPaintsModel" "brushOf" cL179 cK179 = true)
theorem lk180 : kAll "DoorPaintsModel" "ownBrush" cL180 := kOK_of (by decide +kernel : kOK "DoorPaintsModel" "ownBrush" cL180 cK180 = true)
theorem lk181_0 : kOK "DoorPaintsModel" "door" cL181_0 cK181_0 = true := by decide +kernel
theorem lk181_1 : kOK "DoorPaintsModel" "door" cL181_1 cK181_1 = true := by decide +kernel
theorem lk181 : kAll "DoorPaintsModel" "door" cL181 := kOK_app lk181_0 (kOK_of lk181_1)
theorem lk182 : kAll "DoorPaintsModel" "isDoor" cL182 := kOK_of (by decide +kernel : kOK "DoorPaintsModel" "isDoor" cL182 cK182 = true)
theorem lk183 : kAll "DoorPaintsModel" "plan" cL183 := kOK_of (by decide +kernel : kOK "DoorPaintsModel" "plan" cL183 cK183 = true)
theorem lk184 : kAll "DoorPaintsModel" "uses" cL184 := kOK_of (by decide +kernel : kOK "DoorPaintsModel" "uses" cL184 cK184 = true)
theorem lk185 : kAll "DoorPaintsModel" "usesOf" cL185 := kOK_of (by decide +kernel : kOK "DoorPaintsModel" "usesOf" cL185 cK185 = true)
theorem lk186 : kAll "DoorPaintsModel" "visit" cL186 := kOK_of (by decide +kernel : kOK "DoorPaintsModel" "visit" cL186 cK186 = true)
theorem lk187 : kAll "DoorPaintsModel" "keepsOut" cL187 := kOK_of (by decide +kernel : kOK "DoorPaintsModel" "keepsOut" cL187 cK187 = true)
theorem lk188_0 : kOK "DoorPaintsModel" "visits" cL188_0 cK188_0 = true := by decide +kernel
theorem lk188_1 : kOK "DoorPaintsModel" "visits" cL188_1 cK188_1 = true := by decide +kernel
theorem lk188_2 : kOK "DoorPaintsModel" "visits" cL188_2 cK188_2 = true := by decide +kernel
theorem lk188 : kAll "DoorPaintsModel" "visits" cL188 := kOK_app lk188_0 (kOK_app lk188_1 (kOK_of lk188_2))
theorem lk189 : kAll "DoorPaintsModel" "becomesDoor" cL189 := kOK_of (by decide +kernel : kOK "DoorPaintsModel" "becomesDoor" cL189 cK189 = true)
theorem lk190 : kAll "DoorPaintsModel" "settles" cL190 := kOK_of (by decide +kernel : kOK "DoorPaintsModel" "settles" cL190 cK190 = true)
theorem lk191 : kAll "DoorPaintsModel" "sky" cL191 := kOK_of (by decide +kernel : kOK "DoorPaintsModel" "sky" cL191 cK191 = true)
theorem lk192 : kAll "DoorPaintsModel" "goesBy" cL192 := kOK_of (by decide +kernel : kOK "DoorPaintsModel" "goesBy" cL192 cK192 = true)
theorem lk193_0 : kOK "DoorPaintsModel" "rains" cL193_0 cK193_0 = true := by decide +kernel
theorem lk193_1 : kOK "DoorPaintsModel" "rains" cL193_1 cK193_1 = true := by decide +kernel
theorem lk193 : kAll "DoorPaintsModel" "rains" cL193 := kOK_app lk193_0 (kOK_of lk193_1)
theorem lk194 : kAll "DoorPaintsModel" "layers" cL194 := kOK_of (by decide +kernel : kOK "DoorPaintsModel" "layers" cL194 cK194 = true)
theorem lk195 : kAll "DoorPaintsModel" "scrape" cL195 := kOK_of (by decide +kernel : kOK "DoorPaintsModel" "scrape" cL195 cK195 = true)
theorem lk196 : kAll "DoorPaintsModel" "alter" cL196 := kOK_of (by decide +kernel : kOK "DoorPaintsModel" "alter" cL196 cK196 = true)
theorem lk197 : kAll "DoorPaintsModel" "mostOf" cL197 := kOK_of (by decide +kernel : kOK "DoorPaintsModel" "mostOf" cL197 cK197 = true)
theorem lk198 : kAll "DoorPaintsModel" "becomes" cL198 := kOK_of (by decide +kernel : kOK "DoorPaintsModel" "becomes" cL198 cK198 = true)
theorem lk199 : kAll "DoorPaintsModel" "ought" cL199 := kOK_of (by decide +kernel : kOK "DoorPaintsModel" "ought" cL199 cK199 = true)
theorem lk200 : kAll "DoorPaintsModel" "plans" cL200 := kOK_of (by decide +kernel : kOK "DoorPaintsModel" "plans" cL200 cK200 = true)
