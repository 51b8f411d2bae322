theorem th_320 : ThrOk RX11 320 324 "java/lang/IllegalStateException" := thrOk_of kl_X11_320 ini_java_lang_IllegalStateException (by decide +kernel) (by decide +kernel)
theorem th_434 : ThrOk RX11 434 438 "java/lang/IndexOutOfBoundsException" := thrOk_of kl_X11_434 ini_java_lang_IndexOutOfBoundsException (by decide +kernel) (by decide +kernel)
theorem th_152 : ThrOk RX11 152 156 "java/lang/UnsupportedOperationException" := thrOk_of kl_X11_152 ini_java_lang_UnsupportedOperationException (by decide +kernel) (by decide +kernel)
theorem th_189 : ThrOk RX11 189 193 "java/lang/IllegalArgumentException" := thrOk_of kl_X11_189 ini_java_lang_IllegalArgumentException (by decide +kernel) (by decide +kernel)
